set_option maxRecDepth 20000 in
theorem ggX0_init_Jx4a65c_init_da8c8 : GoodIn wsX0_init wsJx4a65c_init_da8c8 := goodIn_r _ [15, 16, 17, 18, 19, 20, 21, 22, 23, 24, 25, 26, 27, 2, 3, 33, 34, 35] (by decide +kernel) (by decide +kernel)
set_option maxRecDepth 20000 in
theorem gX0_init_Jx4a65c_init_da8c8 : GoodIn wsX0_init (wsJx4a65c_init_da8c8) := ggX0_init_Jx4a65c_init_da8c8
set_option maxRecDepth 20000 in
theorem ggX0_init_X2_init : GoodIn wsX0_init wsX2_init := goodIn_r _ [29, 30, 2, 3, 31, 32, 40] (by decide +kernel) (by decide +kernel)
set_option maxRecDepth 20000 in
theorem gX0_init_X2_init_n20 : GoodIn wsX0_init (wsX2_init) := ggX0_init_X2_init
theorem dX0_init_0 : decode cX0_init 0 = .ok (.aload_n 0, 1) := by decide +kernel
theorem dX0_init_1 : decode cX0_init 1 = .ok (.invokespecial 3, 3) := by decide +kernel
theorem dX0_init_4 : decode cX0_init 4 = .ok (.aload_n 0, 1) := by decide +kernel
theorem dX0_init_5 : decode cX0_init 5 = .ok (.new 9, 3) := by decide +kernel
theorem dX0_init_8 : decode cX0_init 8 = .ok (.dup, 1) := by decide +kernel
theorem dX0_init_9 : decode cX0_init 9 = .ok (.invokespecial 11, 3) := by decide +kernel
theorem dX0_init_12 : decode cX0_init 12 = .ok (.putfield 12, 3) := by decide +kernel
theorem dX0_init_15 : decode cX0_init 15 = .ok (.aload_n 0, 1) := by decide +kernel
theorem dX0_init_16 : decode cX0_init 16 = .ok (.new 18, 3) := by decide +kernel
theorem dX0_init_19 : decode cX0_init 19 = .ok (.dup, 1) := by decide +kernel
theorem dX0_init_20 : decode cX0_init 20 = .ok (.invokespecial 20, 3) := by decide +kernel
theorem dX0_init_23 : decode cX0_init 23 = .ok (.putfield 21, 3) := by decide +kernel
theorem dX0_init_26 : decode cX0_init 26 = .ok (.aload_n 0, 1) := by decide +kernel
theorem dX0_init_27 : decode cX0_init 27 = .ok (.new 18, 3) := by decide +kernel
theorem dX0_init_30 : decode cX0_init 30 = .ok (.dup, 1) := by decide +kernel
theorem dX0_init_31 : decode cX0_init 31 = .ok (.invokespecial 20, 3) := by decide +kernel
theorem dX0_init_34 : decode cX0_init 34 = .ok (.putfield 25, 3) := by decide +kernel
theorem dX0_init_37 : decode cX0_init 37 = .ok (.return_, 1) := by decide +kernel
set_option maxRecDepth 20000 in
theorem ggX0_hasRoomFor_Jx4a65c_size_8abf5 : GoodIn wsX0_hasRoomFor wsJx4a65c_size_8abf5 := goodIn_r _ [6, 7, 12, 13, 14] (by decide +kernel) (by decide +kernel)
set_option maxRecDepth 20000 in
theorem gX0_hasRoomFor_Jx4a65c_size_8abf5_f28Jx4a65c : GoodIn wsX0_hasRoomFor (va_wsF RX0 28 RJx4a65c ⟨"java/util/List", "size", "()I"⟩ yJx4a65c_size_8abf5 wsJx4a65c_size_8abf5) := goodIn_app (goodIn_of _ (by decide +kernel)) ggX0_hasRoomFor_Jx4a65c_size_8abf5
theorem dX0_hasRoomFor_0 : decode cX0_hasRoomFor 0 = .ok (.aload_n 0, 1) := by decide +kernel
theorem dX0_hasRoomFor_1 : decode cX0_hasRoomFor 1 = .ok (.getfield 12, 3) := by decide +kernel
theorem dX0_hasRoomFor_4 : decode cX0_hasRoomFor 4 = .ok (.invokeinterface 28 1, 5) := by decide +kernel
theorem dX0_hasRoomFor_9 : decode cX0_hasRoomFor 9 = .ok (.iload_n 1, 1) := by decide +kernel
theorem dX0_hasRoomFor_10 : decode cX0_hasRoomFor 10 = .ok (.iadd, 1) := by decide +kernel
theorem dX0_hasRoomFor_11 : decode cX0_hasRoomFor 11 = .ok (.sipush 10240, 3) := by decide +kernel
theorem dX0_hasRoomFor_14 : decode cX0_hasRoomFor 14 = .ok (.if_icmp .gt 7, 3) := by decide +kernel
theorem dX0_hasRoomFor_17 : decode cX0_hasRoomFor 17 = .ok (.iconst 1, 1) := by decide +kernel
theorem dX0_hasRoomFor_18 : decode cX0_hasRoomFor 18 = .ok (.goto 4, 3) := by decide +kernel
theorem dX0_hasRoomFor_21 : decode cX0_hasRoomFor 21 = .ok (.iconst 0, 1) := by decide +kernel
theorem dX0_hasRoomFor_22 : decode cX0_hasRoomFor 22 = .ok (.ireturn, 1) := by decide +kernel
set_option maxRecDepth 20000 in
theorem ggX0_writeReceipt_X4_init : GoodIn wsX0_writeReceipt wsX4_init := goodIn_r _ [9, 10, 11, 12, 13, 14, 88, 89, 90] (by decide +kernel) (by decide +kernel)
set_option maxRecDepth 20000 in
theorem gX0_writeReceipt_X4_init : GoodIn wsX0_writeReceipt (wsX4_init) := ggX0_writeReceipt_X4_init
set_option maxRecDepth 20000 in
theorem ggX0_writeReceipt_Jx4a65c_add_9ea2d : GoodIn wsX0_writeReceipt wsJx4a65c_add_9ea2d := goodIn_r _ [19, 20, 21, 22, 23, 24, 25, 26, 18, 27, 28, 29, 30, 31, 32, 33, 34, 35, 36, 37, 38, 39, 40, 41, 42, 43, 44, 45, 46, 47, 48, 49, 50, 51, 52, 53, 54, 55, 56, 57, 58, 59, 60, 61, 62, 63, 64, 65, 66, 67, 68, 69, 70, 91, 92, 93] (by decide +kernel) (by decide +kernel)
set_option maxRecDepth 20000 in
theorem gX0_writeReceipt_Jx4a65c_add_9ea2d_f39Jx4a65c : GoodIn wsX0_writeReceipt (va_wsF RX0 39 RJx4a65c ⟨"java/util/List", "add", "(Ljava/lang/Object;)Z"⟩ yJx4a65c_add_9ea2d wsJx4a65c_add_9ea2d) := goodIn_app (goodIn_of _ (by decide +kernel)) ggX0_writeReceipt_Jx4a65c_add_9ea2d
set_option maxRecDepth 20000 in
theorem ggX0_writeReceipt_X2_put : GoodIn wsX0_writeReceipt wsX2_put := goodIn_r _ [75, 76, 77, 78, 79, 80, 81, 82, 83, 94] (by decide +kernel) (by decide +kernel)
set_option maxRecDepth 20000 in
theorem gX0_writeReceipt_X2_put : GoodIn wsX0_writeReceipt (wsV RX0 47 RX2 yX2_put wsX2_put) := goodIn_app (goodIn_of _ (by decide +kernel)) ggX0_writeReceipt_X2_put
theorem dX0_writeReceipt_0 : decode cX0_writeReceipt 0 = .ok (.aload_n 0, 1) := by decide +kernel
theorem dX0_writeReceipt_1 : decode cX0_writeReceipt 1 = .ok (.getfield 12, 3) := by decide +kernel
theorem dX0_writeReceipt_4 : decode cX0_writeReceipt 4 = .ok (.new 34, 3) := by decide +kernel
theorem dX0_writeReceipt_7 : decode cX0_writeReceipt 7 = .ok (.dup, 1) := by decide +kernel
theorem dX0_writeReceipt_8 : decode cX0_writeReceipt 8 = .ok (.lload_n 1, 1) := by decide +kernel
theorem dX0_writeReceipt_9 : decode cX0_writeReceipt 9 = .ok (.iload_n 3, 1) := by decide +kernel
theorem dX0_writeReceipt_10 : decode cX0_writeReceipt 10 = .ok (.invokespecial 36, 3) := by decide +kernel
theorem dX0_writeReceipt_13 : decode cX0_writeReceipt 13 = .ok (.invokeinterface 39 2, 5) := by decide +kernel
theorem dX0_writeReceipt_18 : decode cX0_writeReceipt 18 = .ok (.pop, 1) := by decide +kernel
theorem dX0_writeReceipt_19 : decode cX0_writeReceipt 19 = .ok (.aload_n 0, 1) := by decide +kernel
theorem dX0_writeReceipt_20 : decode cX0_writeReceipt 20 = .ok (.dup, 1) := by decide +kernel
theorem dX0_writeReceipt_21 : decode cX0_writeReceipt 21 = .ok (.getfield 43, 3) := by decide +kernel
theorem dX0_writeReceipt_24 : decode cX0_writeReceipt 24 = .ok (.iload_n 3, 1) := by decide +kernel
theorem dX0_writeReceipt_25 : decode cX0_writeReceipt 25 = .ok (.iadd, 1) := by decide +kernel
theorem dX0_writeReceipt_26 : decode cX0_writeReceipt 26 = .ok (.putfield 43, 3) := by decide +kernel
theorem dX0_writeReceipt_29 : decode cX0_writeReceipt 29 = .ok (.aload_n 0, 1) := by decide +kernel
theorem dX0_writeReceipt_30 : decode cX0_writeReceipt 30 = .ok (.getfield 25, 3) := by decide +kernel
theorem dX0_writeReceipt_33 : decode cX0_writeReceipt 33 = .ok (.lload_n 1, 1) := by decide +kernel
theorem dX0_writeReceipt_34 : decode cX0_writeReceipt 34 = .ok (.iconst 1, 1) := by decide +kernel
theorem dX0_writeReceipt_35 : decode cX0_writeReceipt 35 = .ok (.invokevirtual 47, 3) := by decide +kernel
theorem dX0_writeReceipt_38 : decode cX0_writeReceipt 38 = .ok (.return_, 1) := by decide +kernel
set_option maxRecDepth 20000 in
theorem ggX0_giveBack_X4_refund : GoodIn wsX0_giveBack wsX4_refund := goodIn_r _ [9, 10, 24, 25, 26] (by decide +kernel) (by decide +kernel)
set_option maxRecDepth 20000 in
theorem gX0_giveBack_X4_refund : GoodIn wsX0_giveBack (wsV RX0 54 RX4 yX4_refund wsX4_refund) := goodIn_app (goodIn_of _ (by decide +kernel)) ggX0_giveBack_X4_refund
set_option maxRecDepth 20000 in
theorem ggX0_giveBack_X2_put : GoodIn wsX0_giveBack wsX2_put := goodIn_r _ [15, 16, 17, 18, 19, 20, 21, 22, 23, 31] (by decide +kernel) (by decide +kernel)
set_option maxRecDepth 20000 in
theorem gX0_giveBack_X2_put : GoodIn wsX0_giveBack (wsV RX0 47 RX2 yX2_put wsX2_put) := goodIn_app (goodIn_of _ (by decide +kernel)) ggX0_giveBack_X2_put
theorem dX0_giveBack_0 : decode cX0_giveBack 0 = .ok (.aload_n 1, 1) := by decide +kernel
theorem dX0_giveBack_1 : decode cX0_giveBack 1 = .ok (.iconst 1, 1) := by decide +kernel
theorem dX0_giveBack_2 : decode cX0_giveBack 2 = .ok (.putfield 50, 3) := by decide +kernel
theorem dX0_giveBack_5 : decode cX0_giveBack 5 = .ok (.aload_n 0, 1) := by decide +kernel
theorem dX0_giveBack_6 : decode cX0_giveBack 6 = .ok (.dup, 1) := by decide +kernel
theorem dX0_giveBack_7 : decode cX0_giveBack 7 = .ok (.getfield 43, 3) := by decide +kernel
theorem dX0_giveBack_10 : decode cX0_giveBack 10 = .ok (.aload_n 1, 1) := by decide +kernel
theorem dX0_giveBack_11 : decode cX0_giveBack 11 = .ok (.invokevirtual 54, 3) := by decide +kernel
theorem dX0_giveBack_14 : decode cX0_giveBack 14 = .ok (.isub, 1) := by decide +kernel
theorem dX0_giveBack_15 : decode cX0_giveBack 15 = .ok (.putfield 43, 3) := by decide +kernel
theorem dX0_giveBack_18 : decode cX0_giveBack 18 = .ok (.aload_n 0, 1) := by decide +kernel
theorem dX0_giveBack_19 : decode cX0_giveBack 19 = .ok (.getfield 25, 3) := by decide +kernel
theorem dX0_giveBack_22 : decode cX0_giveBack 22 = .ok (.aload_n 1, 1) := by decide +kernel
theorem dX0_giveBack_23 : decode cX0_giveBack 23 = .ok (.getfield 57, 3) := by decide +kernel
theorem dX0_giveBack_26 : decode cX0_giveBack 26 = .ok (.iconst (-1), 1) := by decide +kernel
theorem dX0_giveBack_27 : decode cX0_giveBack 27 = .ok (.invokevirtual 47, 3) := by decide +kernel
theorem dX0_giveBack_30 : decode cX0_giveBack 30 = .ok (.return_, 1) := by decide +kernel
set_option maxRecDepth 20000 in
theorem ggX1_init_X6_init : GoodIn wsX1_init wsX6_init := goodIn_r _ [14, 15, 2, 3, 16, 17, 23, 24] (by decide +kernel) (by decide +kernel)
set_option maxRecDepth 20000 in
theorem gX1_init_X6_init_n9 : GoodIn wsX1_init (wsX6_init) := ggX1_init_X6_init
set_option maxRecDepth 20000 in
theorem ggX1_init_X2_init : GoodIn wsX1_init wsX2_init := goodIn_r _ [19, 20, 2, 3, 21, 22, 28] (by decide +kernel) (by decide +kernel)
set_option maxRecDepth 20000 in
theorem gX1_init_X2_init_n21 : GoodIn wsX1_init (wsX2_init) := ggX1_init_X2_init
theorem dX1_init_0 : decode cX1_init 0 = .ok (.aload_n 0, 1) := by decide +kernel
theorem dX1_init_1 : decode cX1_init 1 = .ok (.invokespecial 1, 3) := by decide +kernel
theorem dX1_init_4 : decode cX1_init 4 = .ok (.aload_n 0, 1) := by decide +kernel
theorem dX1_init_5 : decode cX1_init 5 = .ok (.new 7, 3) := by decide +kernel
theorem dX1_init_8 : decode cX1_init 8 = .ok (.dup, 1) := by decide +kernel
theorem dX1_init_9 : decode cX1_init 9 = .ok (.invokespecial 9, 3) := by decide +kernel
theorem dX1_init_12 : decode cX1_init 12 = .ok (.putfield 10, 3) := by decide +kernel
theorem dX1_init_15 : decode cX1_init 15 = .ok (.aload_n 0, 1) := by decide +kernel
theorem dX1_init_16 : decode cX1_init 16 = .ok (.new 7, 3) := by decide +kernel
theorem dX1_init_19 : decode cX1_init 19 = .ok (.dup, 1) := by decide +kernel
theorem dX1_init_20 : decode cX1_init 20 = .ok (.invokespecial 9, 3) := by decide +kernel
theorem dX1_init_23 : decode cX1_init 23 = .ok (.putfield 16, 3) := by decide +kernel
theorem dX1_init_26 : decode cX1_init 26 = .ok (.aload_n 0, 1) := by decide +kernel
theorem dX1_init_27 : decode cX1_init 27 = .ok (.new 19, 3) := by decide +kernel
theorem dX1_init_30 : decode cX1_init 30 = .ok (.dup, 1) := by decide +kernel
theorem dX1_init_31 : decode cX1_init 31 = .ok (.invokespecial 21, 3) := by decide +kernel
theorem dX1_init_34 : decode cX1_init 34 = .ok (.putfield 22, 3) := by decide +kernel
theorem dX1_init_37 : decode cX1_init 37 = .ok (.return_, 1) := by decide +kernel
theorem dX1_words_0 : decode cX1_words 0 = .ok (.aload_n 0, 1) := by decide +kernel
theorem dX1_words_1 : decode cX1_words 1 = .ok (.getfield 10, 3) := by decide +kernel
theorem dX1_words_4 : decode cX1_words 4 = .ok (.areturn, 1) := by decide +kernel
set_option maxRecDepth 20000 in
theorem ggX1_contains_X1_placeOf : GoodIn wsX1_contains wsX1_placeOf := goodIn_r _ [6, 1, 7, 8, 9, 10, 11, 12, 13, 14, 15, 16, 17, 18, 19, 20, 21, 22, 23, 24, 25, 26, 27, 28, 29] (by decide +kernel) (by decide +kernel)
set_option maxRecDepth 20000 in
theorem gX1_contains_X1_placeOf : GoodIn wsX1_contains (wsV RX1 26 RX1 yX1_placeOf wsX1_placeOf) := goodIn_app (goodIn_of _ (by decide +kernel)) ggX1_contains_X1_placeOf
set_option maxRecDepth 20000 in
theorem ggX1_contains_X6_word : GoodIn wsX1_contains wsX6_word := goodIn_r _ [23, 19, 24, 28, 29] (by decide +kernel) (by decide +kernel)
set_option maxRecDepth 20000 in
theorem gX1_contains_X6_word : GoodIn wsX1_contains (wsV RX1 30 RX6 yX6_word wsX6_word) := goodIn_app (goodIn_of _ (by decide +kernel)) ggX1_contains_X6_word
theorem dX1_contains_0 : decode cX1_contains 0 = .ok (.aload_n 0, 1) := by decide +kernel
theorem dX1_contains_1 : decode cX1_contains 1 = .ok (.getfield 10, 3) := by decide +kernel
theorem dX1_contains_4 : decode cX1_contains 4 = .ok (.aload_n 0, 1) := by decide +kernel
theorem dX1_contains_5 : decode cX1_contains 5 = .ok (.lload_n 1, 1) := by decide +kernel
theorem dX1_contains_6 : decode cX1_contains 6 = .ok (.invokevirtual 26, 3) := by decide +kernel
theorem dX1_contains_9 : decode cX1_contains 9 = .ok (.invokevirtual 30, 3) := by decide +kernel
theorem dX1_contains_12 : decode cX1_contains 12 = .ok (.lload_n 1, 1) := by decide +kernel
theorem dX1_contains_13 : decode cX1_contains 13 = .ok (.lcmp, 1) := by decide +kernel
theorem dX1_contains_14 : decode cX1_contains 14 = .ok (.ifCond .ne 7, 3) := by decide +kernel
theorem dX1_contains_17 : decode cX1_contains 17 = .ok (.iconst 1, 1) := by decide +kernel
theorem dX1_contains_18 : decode cX1_contains 18 = .ok (.goto 4, 3) := by decide +kernel
theorem dX1_contains_21 : decode cX1_contains 21 = .ok (.iconst 0, 1) := by decide +kernel
theorem dX1_contains_22 : decode cX1_contains 22 = .ok (.ireturn, 1) := by decide +kernel
set_option maxRecDepth 20000 in
theorem ggX1_insert_X1_placeOf : GoodIn wsX1_insert wsX1_placeOf := goodIn_r _ [6, 1, 7, 8, 9, 10, 11, 12, 13, 14, 15, 16, 17, 18, 19, 20, 21, 22, 23, 24, 29, 30, 31, 32, 33] (by decide +kernel) (by decide +kernel)
set_option maxRecDepth 20000 in
theorem gX1_insert_X1_placeOf : GoodIn wsX1_insert (wsV RX1 26 RX1 yX1_placeOf wsX1_placeOf) := goodIn_app (goodIn_of _ (by decide +kernel)) ggX1_insert_X1_placeOf
set_option maxRecDepth 20000 in
theorem ggX1_insert_X6_insert : GoodIn wsX1_insert wsX6_insert := goodIn_r _ [28, 19, 24, 32, 33] (by decide +kernel) (by decide +kernel)
set_option maxRecDepth 20000 in
theorem gX1_insert_X6_insert : GoodIn wsX1_insert (wsV RX1 34 RX6 yX6_insert wsX6_insert) := goodIn_app (goodIn_of _ (by decide +kernel)) ggX1_insert_X6_insert
theorem dX1_insert_0 : decode cX1_insert 0 = .ok (.aload_n 0, 1) := by decide +kernel
theorem dX1_insert_1 : decode cX1_insert 1 = .ok (.getfield 10, 3) := by decide +kernel
theorem dX1_insert_4 : decode cX1_insert 4 = .ok (.aload_n 0, 1) := by decide +kernel
theorem dX1_insert_5 : decode cX1_insert 5 = .ok (.lload_n 1, 1) := by decide +kernel
theorem dX1_insert_6 : decode cX1_insert 6 = .ok (.invokevirtual 26, 3) := by decide +kernel
theorem dX1_insert_9 : decode cX1_insert 9 = .ok (.lload_n 1, 1) := by decide +kernel
theorem dX1_insert_10 : decode cX1_insert 10 = .ok (.invokevirtual 34, 3) := by decide +kernel
theorem dX1_insert_13 : decode cX1_insert 13 = .ok (.return_, 1) := by decide +kernel
set_option maxRecDepth 20000 in
theorem ggX1_delete_X1_placeOf : GoodIn wsX1_delete wsX1_placeOf := goodIn_r _ [6, 1, 7, 8, 9, 10, 11, 12, 13, 14, 15, 16, 17, 18, 19, 20, 21, 22, 23, 24, 29, 30, 31, 32, 33] (by decide +kernel) (by decide +kernel)
set_option maxRecDepth 20000 in
theorem gX1_delete_X1_placeOf : GoodIn wsX1_delete (wsV RX1 26 RX1 yX1_placeOf wsX1_placeOf) := goodIn_app (goodIn_of _ (by decide +kernel)) ggX1_delete_X1_placeOf
set_option maxRecDepth 20000 in
theorem ggX1_delete_X6_delete : GoodIn wsX1_delete wsX6_delete := goodIn_r _ [28, 19, 24, 32, 33] (by decide +kernel) (by decide +kernel)
set_option maxRecDepth 20000 in
theorem gX1_delete_X6_delete : GoodIn wsX1_delete (wsV RX1 38 RX6 yX6_delete wsX6_delete) := goodIn_app (goodIn_of _ (by decide +kernel)) ggX1_delete_X6_delete
theorem dX1_delete_0 : decode cX1_delete 0 = .ok (.aload_n 0, 1) := by decide +kernel
theorem dX1_delete_1 : decode cX1_delete 1 = .ok (.getfield 10, 3) := by decide +kernel
theorem dX1_delete_4 : decode cX1_delete 4 = .ok (.aload_n 0, 1) := by decide +kernel
theorem dX1_delete_5 : decode cX1_delete 5 = .ok (.lload_n 1, 1) := by decide +kernel
theorem dX1_delete_6 : decode cX1_delete 6 = .ok (.invokevirtual 26, 3) := by decide +kernel
theorem dX1_delete_9 : decode cX1_delete 9 = .ok (.invokevirtual 38, 3) := by decide +kernel
theorem dX1_delete_12 : decode cX1_delete 12 = .ok (.return_, 1) := by decide +kernel
set_option maxRecDepth 20000 in
theorem ggX1_fitting_X1_search : GoodIn wsX1_fitting wsX1_search := goodIn_r _ [5, 6, 7, 8, 9, 10, 11, 12, 13, 14, 15, 16, 17, 18, 19, 20, 21, 22, 23, 24, 25, 26, 27, 28, 29, 30, 31, 32, 33, 34, 35, 36, 37, 38, 39, 40, 41, 42, 43, 44, 45, 46, 47, 48, 49, 50, 51, 52, 53, 54, 55, 56, 57, 58, 59, 60, 61, 62, 63, 64] (by decide +kernel) (by decide +kernel)
set_option maxRecDepth 20000 in
theorem gX1_fitting_X1_search : GoodIn wsX1_fitting (wsV RX1 42 RX1 yX1_search wsX1_search) := goodIn_app (goodIn_of _ (by decide +kernel)) ggX1_fitting_X1_search
theorem dX1_fitting_0 : decode cX1_fitting 0 = .ok (.aload_n 0, 1) := by decide +kernel
theorem dX1_fitting_1 : decode cX1_fitting 1 = .ok (.lload_n 1, 1) := by decide +kernel
theorem dX1_fitting_2 : decode cX1_fitting 2 = .ok (.iconst 1, 1) := by decide +kernel
theorem dX1_fitting_3 : decode cX1_fitting 3 = .ok (.invokevirtual 42, 3) := by decide +kernel
theorem dX1_fitting_6 : decode cX1_fitting 6 = .ok (.areturn, 1) := by decide +kernel
set_option maxRecDepth 20000 in
theorem ggX1_anagrams_X7_lengthOf : GoodIn wsX1_anagrams wsX7_lengthOf := goodIn_r _ [4] (by decide +kernel) (by decide +kernel)
set_option maxRecDepth 20000 in
theorem gX1_anagrams_X7_lengthOf : GoodIn wsX1_anagrams (va_wsS RX1 46 yX7_lengthOf wsX7_lengthOf) := goodIn_app (goodIn_of _ (by decide +kernel)) ggX1_anagrams_X7_lengthOf
set_option maxRecDepth 20000 in
theorem ggX1_anagrams_X1_search : GoodIn wsX1_anagrams wsX1_search := goodIn_r _ [9, 10, 11, 12, 13, 14, 15, 16, 17, 18, 19, 20, 21, 22, 23, 2, 3, 4, 24, 25, 26, 27, 28, 29, 30, 31, 32, 33, 34, 35, 36, 37, 38, 39, 40, 41, 1, 42, 43, 44, 45, 46, 47, 48, 49, 50, 51, 52, 53, 54, 55, 56, 57, 58, 59, 60, 61, 62, 63, 64] (by decide +kernel) (by decide +kernel)
set_option maxRecDepth 20000 in
theorem gX1_anagrams_X1_search : GoodIn wsX1_anagrams (wsV RX1 42 RX1 yX1_search wsX1_search) := goodIn_app (goodIn_of _ (by decide +kernel)) ggX1_anagrams_X1_search
theorem dX1_anagrams_0 : decode cX1_anagrams 0 = .ok (.aload_n 0, 1) := by decide +kernel
theorem dX1_anagrams_1 : decode cX1_anagrams 1 = .ok (.lload_n 1, 1) := by decide +kernel
theorem dX1_anagrams_2 : decode cX1_anagrams 2 = .ok (.lload_n 1, 1) := by decide +kernel
theorem dX1_anagrams_3 : decode cX1_anagrams 3 = .ok (.invokestatic 46, 3) := by decide +kernel
theorem dX1_anagrams_6 : decode cX1_anagrams 6 = .ok (.invokevirtual 42, 3) := by decide +kernel
theorem dX1_anagrams_9 : decode cX1_anagrams 9 = .ok (.areturn, 1) := by decide +kernel
set_option maxRecDepth 20000 in
theorem ggX1_search_X2_clear : GoodIn wsX1_search wsX2_clear := goodIn_r _ [8, 9, 57] (by decide +kernel) (by decide +kernel)
set_option maxRecDepth 20000 in
theorem gX1_search_X2_clear : GoodIn wsX1_search (wsV RX1 51 RX2 yX2_clear wsX2_clear) := goodIn_app (goodIn_of _ (by decide +kernel)) ggX1_search_X2_clear
set_option maxRecDepth 20000 in
theorem ggX1_search_X2_put : GoodIn wsX1_search wsX2_put := goodIn_r _ [13, 9, 14, 15, 16, 17, 18, 19, 20, 57] (by decide +kernel) (by decide +kernel)
set_option maxRecDepth 20000 in
theorem gX1_search_X2_put : GoodIn wsX1_search (wsV RX1 54 RX2 yX2_put wsX2_put) := goodIn_app (goodIn_of _ (by decide +kernel)) ggX1_search_X2_put
set_option maxRecDepth 20000 in
theorem ggX1_search_X6_clear : GoodIn wsX1_search wsX6_clear := goodIn_r _ [25, 26, 58, 59] (by decide +kernel) (by decide +kernel)
set_option maxRecDepth 20000 in
theorem gX1_search_X6_clear : GoodIn wsX1_search (wsV RX1 58 RX6 yX6_clear wsX6_clear) := goodIn_app (goodIn_of _ (by decide +kernel)) ggX1_search_X6_clear
set_option maxRecDepth 20000 in
theorem ggX1_search_X6_size : GoodIn wsX1_search wsX6_size := goodIn_r _ [30, 26, 58, 59] (by decide +kernel) (by decide +kernel)
set_option maxRecDepth 20000 in
theorem gX1_search_X6_size : GoodIn wsX1_search (wsV RX1 59 RX6 yX6_size wsX6_size) := goodIn_app (goodIn_of _ (by decide +kernel)) ggX1_search_X6_size
set_option maxRecDepth 20000 in
theorem ggX1_search_X6_word : GoodIn wsX1_search wsX6_word := goodIn_r _ [34, 26, 35, 58, 59] (by decide +kernel) (by decide +kernel)
set_option maxRecDepth 20000 in
theorem gX1_search_X6_word : GoodIn wsX1_search (wsV RX1 30 RX6 yX6_word wsX6_word) := goodIn_app (goodIn_of _ (by decide +kernel)) ggX1_search_X6_word
set_option maxRecDepth 20000 in
theorem ggX1_search_X7_lengthOf : GoodIn wsX1_search wsX7_lengthOf := goodIn_r _ [17] (by decide +kernel) (by decide +kernel)
set_option maxRecDepth 20000 in
theorem gX1_search_X7_lengthOf : GoodIn wsX1_search (va_wsS RX1 46 yX7_lengthOf wsX7_lengthOf) := goodIn_app (goodIn_of _ (by decide +kernel)) ggX1_search_X7_lengthOf
set_option maxRecDepth 20000 in
theorem ggX1_search_X2_holds : GoodIn wsX1_search wsX2_holds := goodIn_r _ [40, 41, 42, 43, 7, 44, 9, 14, 15, 16, 17, 18, 19, 20, 45, 11, 12, 13, 57] (by decide +kernel) (by decide +kernel)
set_option maxRecDepth 20000 in
theorem gX1_search_X2_holds : GoodIn wsX1_search (wsV RX1 63 RX2 yX2_holds wsX2_holds) := goodIn_app (goodIn_of _ (by decide +kernel)) ggX1_search_X2_holds
set_option maxRecDepth 20000 in
theorem ggX1_search_X6_append : GoodIn wsX1_search wsX6_append := goodIn_r _ [49, 26, 50, 51, 52, 24, 53, 35, 58, 59] (by decide +kernel) (by decide +kernel)
set_option maxRecDepth 20000 in
theorem gX1_search_X6_append : GoodIn wsX1_search (wsV RX1 67 RX6 yX6_append wsX6_append) := goodIn_app (goodIn_of _ (by decide +kernel)) ggX1_search_X6_append
theorem dX1_search_0 : decode cX1_search 0 = .ok (.aload_n 0, 1) := by decide +kernel
theorem dX1_search_1 : decode cX1_search 1 = .ok (.getfield 22, 3) := by decide +kernel
theorem dX1_search_4 : decode cX1_search 4 = .ok (.invokevirtual 51, 3) := by decide +kernel
theorem dX1_search_7 : decode cX1_search 7 = .ok (.aload_n 0, 1) := by decide +kernel
theorem dX1_search_8 : decode cX1_search 8 = .ok (.getfield 22, 3) := by decide +kernel
theorem dX1_search_11 : decode cX1_search 11 = .ok (.lload_n 1, 1) := by decide +kernel
theorem dX1_search_12 : decode cX1_search 12 = .ok (.iconst 1, 1) := by decide +kernel
theorem dX1_search_13 : decode cX1_search 13 = .ok (.invokevirtual 54, 3) := by decide +kernel
theorem dX1_search_16 : decode cX1_search 16 = .ok (.aload_n 0, 1) := by decide +kernel
theorem dX1_search_17 : decode cX1_search 17 = .ok (.getfield 16, 3) := by decide +kernel
theorem dX1_search_20 : decode cX1_search 20 = .ok (.invokevirtual 58, 3) := by decide +kernel
theorem dX1_search_23 : decode cX1_search 23 = .ok (.iconst 0, 1) := by decide +kernel
theorem dX1_search_24 : decode cX1_search 24 = .ok (.istore 4, 2) := by decide +kernel
theorem dX1_search_26 : decode cX1_search 26 = .ok (.iload 4, 2) := by decide +kernel
theorem dX1_search_28 : decode cX1_search 28 = .ok (.aload_n 0, 1) := by decide +kernel
theorem dX1_search_29 : decode cX1_search 29 = .ok (.getfield 10, 3) := by decide +kernel
theorem dX1_search_32 : decode cX1_search 32 = .ok (.invokevirtual 59, 3) := by decide +kernel
theorem dX1_search_35 : decode cX1_search 35 = .ok (.if_icmp .ge 50, 3) := by decide +kernel
theorem dX1_search_38 : decode cX1_search 38 = .ok (.aload_n 0, 1) := by decide +kernel
theorem dX1_search_39 : decode cX1_search 39 = .ok (.getfield 10, 3) := by decide +kernel
theorem dX1_search_42 : decode cX1_search 42 = .ok (.iload 4, 2) := by decide +kernel
theorem dX1_search_44 : decode cX1_search 44 = .ok (.invokevirtual 30, 3) := by decide +kernel
theorem dX1_search_47 : decode cX1_search 47 = .ok (.lstore 5, 2) := by decide +kernel
theorem dX1_search_49 : decode cX1_search 49 = .ok (.lload 5, 2) := by decide +kernel
theorem dX1_search_51 : decode cX1_search 51 = .ok (.invokestatic 46, 3) := by decide +kernel
theorem dX1_search_54 : decode cX1_search 54 = .ok (.iload_n 3, 1) := by decide +kernel
theorem dX1_search_55 : decode cX1_search 55 = .ok (.if_icmp .lt 24, 3) := by decide +kernel
theorem dX1_search_58 : decode cX1_search 58 = .ok (.aload_n 0, 1) := by decide +kernel
theorem dX1_search_59 : decode cX1_search 59 = .ok (.getfield 22, 3) := by decide +kernel
theorem dX1_search_62 : decode cX1_search 62 = .ok (.lload 5, 2) := by decide +kernel
theorem dX1_search_64 : decode cX1_search 64 = .ok (.invokevirtual 63, 3) := by decide +kernel
theorem dX1_search_67 : decode cX1_search 67 = .ok (.ifCond .eq 12, 3) := by decide +kernel
theorem dX1_search_70 : decode cX1_search 70 = .ok (.aload_n 0, 1) := by decide +kernel
theorem dX1_search_71 : decode cX1_search 71 = .ok (.getfield 16, 3) := by decide +kernel
theorem dX1_search_74 : decode cX1_search 74 = .ok (.lload 5, 2) := by decide +kernel
theorem dX1_search_76 : decode cX1_search 76 = .ok (.invokevirtual 67, 3) := by decide +kernel
theorem dX1_search_79 : decode cX1_search 79 = .ok (.iinc 4 1, 3) := by decide +kernel
theorem dX1_search_82 : decode cX1_search 82 = .ok (.goto (-56), 3) := by decide +kernel
theorem dX1_search_85 : decode cX1_search 85 = .ok (.aload_n 0, 1) := by decide +kernel
theorem dX1_search_86 : decode cX1_search 86 = .ok (.getfield 16, 3) := by decide +kernel
theorem dX1_search_89 : decode cX1_search 89 = .ok (.areturn, 1) := by decide +kernel
set_option maxRecDepth 20000 in
theorem ggX1_placeOf_X7_rank : GoodIn wsX1_placeOf wsX7_rank := goodIn_r _ [5, 6, 7, 4, 8] (by decide +kernel) (by decide +kernel)
set_option maxRecDepth 20000 in
theorem gX1_placeOf_X7_rank : GoodIn wsX1_placeOf (va_wsS RX1 71 yX7_rank wsX7_rank) := goodIn_app (goodIn_of _ (by decide +kernel)) ggX1_placeOf_X7_rank
set_option maxRecDepth 20000 in
theorem ggX1_placeOf_X6_size : GoodIn wsX1_placeOf wsX6_size := goodIn_r _ [13, 14, 23, 24] (by decide +kernel) (by decide +kernel)
set_option maxRecDepth 20000 in
theorem gX1_placeOf_X6_size : GoodIn wsX1_placeOf (wsV RX1 59 RX6 yX6_size wsX6_size) := goodIn_app (goodIn_of _ (by decide +kernel)) ggX1_placeOf_X6_size
set_option maxRecDepth 20000 in
theorem ggX1_placeOf_X6_word : GoodIn wsX1_placeOf wsX6_word := goodIn_r _ [18, 14, 19, 23, 24] (by decide +kernel) (by decide +kernel)
set_option maxRecDepth 20000 in
theorem gX1_placeOf_X6_word : GoodIn wsX1_placeOf (wsV RX1 30 RX6 yX6_word wsX6_word) := goodIn_app (goodIn_of _ (by decide +kernel)) ggX1_placeOf_X6_word
theorem dX1_placeOf_0 : decode cX1_placeOf 0 = .ok (.lload_n 1, 1) := by decide +kernel
theorem dX1_placeOf_1 : decode cX1_placeOf 1 = .ok (.invokestatic 71, 3) := by decide +kernel
theorem dX1_placeOf_4 : decode cX1_placeOf 4 = .ok (.lstore_n 3, 1) := by decide +kernel
theorem dX1_placeOf_5 : decode cX1_placeOf 5 = .ok (.iconst 0, 1) := by decide +kernel
theorem dX1_placeOf_6 : decode cX1_placeOf 6 = .ok (.istore 5, 2) := by decide +kernel
theorem dX1_placeOf_8 : decode cX1_placeOf 8 = .ok (.iload 5, 2) := by decide +kernel
theorem dX1_placeOf_10 : decode cX1_placeOf 10 = .ok (.aload_n 0, 1) := by decide +kernel
theorem dX1_placeOf_11 : decode cX1_placeOf 11 = .ok (.getfield 10, 3) := by decide +kernel
theorem dX1_placeOf_14 : decode cX1_placeOf 14 = .ok (.invokevirtual 59, 3) := by decide +kernel
theorem dX1_placeOf_17 : decode cX1_placeOf 17 = .ok (.if_icmp .ge 26, 3) := by decide +kernel
theorem dX1_placeOf_20 : decode cX1_placeOf 20 = .ok (.aload_n 0, 1) := by decide +kernel
theorem dX1_placeOf_21 : decode cX1_placeOf 21 = .ok (.getfield 10, 3) := by decide +kernel
theorem dX1_placeOf_24 : decode cX1_placeOf 24 = .ok (.iload 5, 2) := by decide +kernel
theorem dX1_placeOf_26 : decode cX1_placeOf 26 = .ok (.invokevirtual 30, 3) := by decide +kernel
theorem dX1_placeOf_29 : decode cX1_placeOf 29 = .ok (.invokestatic 71, 3) := by decide +kernel
theorem dX1_placeOf_32 : decode cX1_placeOf 32 = .ok (.lload_n 3, 1) := by decide +kernel
theorem dX1_placeOf_33 : decode cX1_placeOf 33 = .ok (.lcmp, 1) := by decide +kernel
theorem dX1_placeOf_34 : decode cX1_placeOf 34 = .ok (.ifCond .ge 9, 3) := by decide +kernel
theorem dX1_placeOf_37 : decode cX1_placeOf 37 = .ok (.iinc 5 1, 3) := by decide +kernel
theorem dX1_placeOf_40 : decode cX1_placeOf 40 = .ok (.goto (-32), 3) := by decide +kernel
theorem dX1_placeOf_43 : decode cX1_placeOf 43 = .ok (.iload 5, 2) := by decide +kernel
theorem dX1_placeOf_45 : decode cX1_placeOf 45 = .ok (.ireturn, 1) := by decide +kernel
theorem dX2_init_0 : decode cX2_init 0 = .ok (.aload_n 0, 1) := by decide +kernel
theorem dX2_init_1 : decode cX2_init 1 = .ok (.invokespecial 3, 3) := by decide +kernel
theorem dX2_init_4 : decode cX2_init 4 = .ok (.aload_n 0, 1) := by decide +kernel
theorem dX2_init_5 : decode cX2_init 5 = .ok (.bipush 32, 2) := by decide +kernel
theorem dX2_init_7 : decode cX2_init 7 = .ok (.newarray .int, 2) := by decide +kernel
theorem dX2_init_9 : decode cX2_init 9 = .ok (.putfield 11, 3) := by decide +kernel
theorem dX2_init_12 : decode cX2_init 12 = .ok (.return_, 1) := by decide +kernel
theorem dX2_count_0 : decode cX2_count 0 = .ok (.aload_n 0, 1) := by decide +kernel
theorem dX2_count_1 : decode cX2_count 1 = .ok (.getfield 11, 3) := by decide +kernel
theorem dX2_count_4 : decode cX2_count 4 = .ok (.iload_n 1, 1) := by decide +kernel
theorem dX2_count_5 : decode cX2_count 5 = .ok (.bipush 31, 2) := by decide +kernel
theorem dX2_count_7 : decode cX2_count 7 = .ok (.iand, 1) := by decide +kernel
theorem dX2_count_8 : decode cX2_count 8 = .ok (.iaload, 1) := by decide +kernel
theorem dX2_count_9 : decode cX2_count 9 = .ok (.ireturn, 1) := by decide +kernel
theorem dX2_total_0 : decode cX2_total 0 = .ok (.iconst 0, 1) := by decide +kernel
theorem dX2_total_1 : decode cX2_total 1 = .ok (.istore_n 1, 1) := by decide +kernel
theorem dX2_total_2 : decode cX2_total 2 = .ok (.iconst 1, 1) := by decide +kernel
theorem dX2_total_3 : decode cX2_total 3 = .ok (.istore_n 2, 1) := by decide +kernel
theorem dX2_total_4 : decode cX2_total 4 = .ok (.iload_n 2, 1) := by decide +kernel
theorem dX2_total_5 : decode cX2_total 5 = .ok (.bipush 26, 2) := by decide +kernel
theorem dX2_total_7 : decode cX2_total 7 = .ok (.if_icmp .gt 18, 3) := by decide +kernel
theorem dX2_total_10 : decode cX2_total 10 = .ok (.iload_n 1, 1) := by decide +kernel
theorem dX2_total_11 : decode cX2_total 11 = .ok (.aload_n 0, 1) := by decide +kernel
theorem dX2_total_12 : decode cX2_total 12 = .ok (.getfield 11, 3) := by decide +kernel
theorem dX2_total_15 : decode cX2_total 15 = .ok (.iload_n 2, 1) := by decide +kernel
theorem dX2_total_16 : decode cX2_total 16 = .ok (.iaload, 1) := by decide +kernel
theorem dX2_total_17 : decode cX2_total 17 = .ok (.iadd, 1) := by decide +kernel
theorem dX2_total_18 : decode cX2_total 18 = .ok (.istore_n 1, 1) := by decide +kernel
theorem dX2_total_19 : decode cX2_total 19 = .ok (.iinc 2 1, 3) := by decide +kernel
theorem dX2_total_22 : decode cX2_total 22 = .ok (.goto (-18), 3) := by decide +kernel
theorem dX2_total_25 : decode cX2_total 25 = .ok (.iload_n 1, 1) := by decide +kernel
theorem dX2_total_26 : decode cX2_total 26 = .ok (.ireturn, 1) := by decide +kernel
theorem dX2_clear_0 : decode cX2_clear 0 = .ok (.iconst 0, 1) := by decide +kernel
theorem dX2_clear_1 : decode cX2_clear 1 = .ok (.istore_n 1, 1) := by decide +kernel
theorem dX2_clear_2 : decode cX2_clear 2 = .ok (.iload_n 1, 1) := by decide +kernel
theorem dX2_clear_3 : decode cX2_clear 3 = .ok (.bipush 32, 2) := by decide +kernel
theorem dX2_clear_5 : decode cX2_clear 5 = .ok (.if_icmp .ge 16, 3) := by decide +kernel
theorem dX2_clear_8 : decode cX2_clear 8 = .ok (.aload_n 0, 1) := by decide +kernel
theorem dX2_clear_9 : decode cX2_clear 9 = .ok (.getfield 11, 3) := by decide +kernel
theorem dX2_clear_12 : decode cX2_clear 12 = .ok (.iload_n 1, 1) := by decide +kernel
theorem dX2_clear_13 : decode cX2_clear 13 = .ok (.iconst 0, 1) := by decide +kernel
theorem dX2_clear_14 : decode cX2_clear 14 = .ok (.iastore, 1) := by decide +kernel
theorem dX2_clear_15 : decode cX2_clear 15 = .ok (.iinc 1 1, 3) := by decide +kernel
theorem dX2_clear_18 : decode cX2_clear 18 = .ok (.goto (-16), 3) := by decide +kernel
theorem dX2_clear_21 : decode cX2_clear 21 = .ok (.return_, 1) := by decide +kernel
theorem dX2_putAll_0 : decode cX2_putAll 0 = .ok (.iconst 1, 1) := by decide +kernel
theorem dX2_putAll_1 : decode cX2_putAll 1 = .ok (.istore_n 2, 1) := by decide +kernel
theorem dX2_putAll_2 : decode cX2_putAll 2 = .ok (.iload_n 2, 1) := by decide +kernel
theorem dX2_putAll_3 : decode cX2_putAll 3 = .ok (.bipush 26, 2) := by decide +kernel
theorem dX2_putAll_5 : decode cX2_putAll 5 = .ok (.if_icmp .gt 24, 3) := by decide +kernel
theorem dX2_putAll_8 : decode cX2_putAll 8 = .ok (.aload_n 0, 1) := by decide +kernel
theorem dX2_putAll_9 : decode cX2_putAll 9 = .ok (.getfield 11, 3) := by decide +kernel
theorem dX2_putAll_12 : decode cX2_putAll 12 = .ok (.iload_n 2, 1) := by decide +kernel
theorem dX2_putAll_13 : decode cX2_putAll 13 = .ok (.dup2, 1) := by decide +kernel
theorem dX2_putAll_14 : decode cX2_putAll 14 = .ok (.iaload, 1) := by decide +kernel
theorem dX2_putAll_15 : decode cX2_putAll 15 = .ok (.aload_n 1, 1) := by decide +kernel
theorem dX2_putAll_16 : decode cX2_putAll 16 = .ok (.getfield 11, 3) := by decide +kernel
theorem dX2_putAll_19 : decode cX2_putAll 19 = .ok (.iload_n 2, 1) := by decide +kernel
theorem dX2_putAll_20 : decode cX2_putAll 20 = .ok (.iaload, 1) := by decide +kernel
theorem dX2_putAll_21 : decode cX2_putAll 21 = .ok (.iadd, 1) := by decide +kernel
theorem dX2_putAll_22 : decode cX2_putAll 22 = .ok (.iastore, 1) := by decide +kernel
theorem dX2_putAll_23 : decode cX2_putAll 23 = .ok (.iinc 2 1, 3) := by decide +kernel
theorem dX2_putAll_26 : decode cX2_putAll 26 = .ok (.goto (-24), 3) := by decide +kernel
theorem dX2_putAll_29 : decode cX2_putAll 29 = .ok (.return_, 1) := by decide +kernel
set_option maxRecDepth 20000 in
theorem ggX2_put_X7_lengthOf : GoodIn wsX2_put wsX7_lengthOf := goodIn_r _ [5] (by decide +kernel) (by decide +kernel)
set_option maxRecDepth 20000 in
theorem gX2_put_X7_lengthOf : GoodIn wsX2_put (va_wsS RX2 17 yX7_lengthOf wsX7_lengthOf) := goodIn_app (goodIn_of _ (by decide +kernel)) ggX2_put_X7_lengthOf
set_option maxRecDepth 20000 in
theorem ggX2_put_X7_letter : GoodIn wsX2_put wsX7_letter := goodIn_r _ [8] (by decide +kernel) (by decide +kernel)
set_option maxRecDepth 20000 in
theorem gX2_put_X7_letter : GoodIn wsX2_put (va_wsS RX2 21 yX7_letter wsX7_letter) := goodIn_app (goodIn_of _ (by decide +kernel)) ggX2_put_X7_letter
theorem dX2_put_0 : decode cX2_put 0 = .ok (.lload_n 1, 1) := by decide +kernel
theorem dX2_put_1 : decode cX2_put 1 = .ok (.invokestatic 17, 3) := by decide +kernel
theorem dX2_put_4 : decode cX2_put 4 = .ok (.istore 4, 2) := by decide +kernel
theorem dX2_put_6 : decode cX2_put 6 = .ok (.iconst 0, 1) := by decide +kernel
theorem dX2_put_7 : decode cX2_put 7 = .ok (.istore 5, 2) := by decide +kernel
theorem dX2_put_9 : decode cX2_put 9 = .ok (.iload 5, 2) := by decide +kernel
theorem dX2_put_11 : decode cX2_put 11 = .ok (.iload 4, 2) := by decide +kernel
theorem dX2_put_13 : decode cX2_put 13 = .ok (.if_icmp .ge 24, 3) := by decide +kernel
theorem dX2_put_16 : decode cX2_put 16 = .ok (.aload_n 0, 1) := by decide +kernel
theorem dX2_put_17 : decode cX2_put 17 = .ok (.getfield 11, 3) := by decide +kernel
theorem dX2_put_20 : decode cX2_put 20 = .ok (.lload_n 1, 1) := by decide +kernel
theorem dX2_put_21 : decode cX2_put 21 = .ok (.iload 5, 2) := by decide +kernel
theorem dX2_put_23 : decode cX2_put 23 = .ok (.invokestatic 21, 3) := by decide +kernel
theorem dX2_put_26 : decode cX2_put 26 = .ok (.dup2, 1) := by decide +kernel
theorem dX2_put_27 : decode cX2_put 27 = .ok (.iaload, 1) := by decide +kernel
theorem dX2_put_28 : decode cX2_put 28 = .ok (.iload_n 3, 1) := by decide +kernel
theorem dX2_put_29 : decode cX2_put 29 = .ok (.iadd, 1) := by decide +kernel
theorem dX2_put_30 : decode cX2_put 30 = .ok (.iastore, 1) := by decide +kernel
theorem dX2_put_31 : decode cX2_put 31 = .ok (.iinc 5 1, 3) := by decide +kernel
theorem dX2_put_34 : decode cX2_put 34 = .ok (.goto (-25), 3) := by decide +kernel
theorem dX2_put_37 : decode cX2_put 37 = .ok (.return_, 1) := by decide +kernel
set_option maxRecDepth 20000 in
theorem ggX2_take_X7_lengthOf : GoodIn wsX2_take wsX7_lengthOf := goodIn_r _ [5] (by decide +kernel) (by decide +kernel)
set_option maxRecDepth 20000 in
theorem gX2_take_X7_lengthOf : GoodIn wsX2_take (va_wsS RX2 17 yX7_lengthOf wsX7_lengthOf) := goodIn_app (goodIn_of _ (by decide +kernel)) ggX2_take_X7_lengthOf
set_option maxRecDepth 20000 in
theorem ggX2_take_X7_letter : GoodIn wsX2_take wsX7_letter := goodIn_r _ [8] (by decide +kernel) (by decide +kernel)
set_option maxRecDepth 20000 in
theorem gX2_take_X7_letter : GoodIn wsX2_take (va_wsS RX2 21 yX7_letter wsX7_letter) := goodIn_app (goodIn_of _ (by decide +kernel)) ggX2_take_X7_letter
theorem dX2_take_0 : decode cX2_take 0 = .ok (.lload_n 1, 1) := by decide +kernel
theorem dX2_take_1 : decode cX2_take 1 = .ok (.invokestatic 17, 3) := by decide +kernel
theorem dX2_take_4 : decode cX2_take 4 = .ok (.istore_n 3, 1) := by decide +kernel
theorem dX2_take_5 : decode cX2_take 5 = .ok (.iconst 0, 1) := by decide +kernel
theorem dX2_take_6 : decode cX2_take 6 = .ok (.istore 4, 2) := by decide +kernel
theorem dX2_take_8 : decode cX2_take 8 = .ok (.iload 4, 2) := by decide +kernel
theorem dX2_take_10 : decode cX2_take 10 = .ok (.iload_n 3, 1) := by decide +kernel
theorem dX2_take_11 : decode cX2_take 11 = .ok (.if_icmp .ge 38, 3) := by decide +kernel
theorem dX2_take_14 : decode cX2_take 14 = .ok (.aload_n 0, 1) := by decide +kernel
theorem dX2_take_15 : decode cX2_take 15 = .ok (.getfield 11, 3) := by decide +kernel
theorem dX2_take_18 : decode cX2_take 18 = .ok (.lload_n 1, 1) := by decide +kernel
theorem dX2_take_19 : decode cX2_take 19 = .ok (.iload 4, 2) := by decide +kernel
theorem dX2_take_21 : decode cX2_take 21 = .ok (.invokestatic 21, 3) := by decide +kernel
theorem dX2_take_24 : decode cX2_take 24 = .ok (.iaload, 1) := by decide +kernel
theorem dX2_take_25 : decode cX2_take 25 = .ok (.ifCond .le 24, 3) := by decide +kernel
theorem dX2_take_28 : decode cX2_take 28 = .ok (.aload_n 0, 1) := by decide +kernel
theorem dX2_take_29 : decode cX2_take 29 = .ok (.getfield 11, 3) := by decide +kernel
theorem dX2_take_32 : decode cX2_take 32 = .ok (.lload_n 1, 1) := by decide +kernel
theorem dX2_take_33 : decode cX2_take 33 = .ok (.iload 4, 2) := by decide +kernel
theorem dX2_take_35 : decode cX2_take 35 = .ok (.invokestatic 21, 3) := by decide +kernel
theorem dX2_take_38 : decode cX2_take 38 = .ok (.dup2, 1) := by decide +kernel
theorem dX2_take_39 : decode cX2_take 39 = .ok (.iaload, 1) := by decide +kernel
theorem dX2_take_40 : decode cX2_take 40 = .ok (.iconst 1, 1) := by decide +kernel
theorem dX2_take_41 : decode cX2_take 41 = .ok (.isub, 1) := by decide +kernel
theorem dX2_take_42 : decode cX2_take 42 = .ok (.iastore, 1) := by decide +kernel
theorem dX2_take_43 : decode cX2_take 43 = .ok (.iinc 4 1, 3) := by decide +kernel
theorem dX2_take_46 : decode cX2_take 46 = .ok (.goto (-38), 3) := by decide +kernel
theorem dX2_take_49 : decode cX2_take 49 = .ok (.iload 4, 2) := by decide +kernel
theorem dX2_take_51 : decode cX2_take 51 = .ok (.iload_n 3, 1) := by decide +kernel
theorem dX2_take_52 : decode cX2_take 52 = .ok (.if_icmp .ne 7, 3) := by decide +kernel
theorem dX2_take_55 : decode cX2_take 55 = .ok (.iconst 1, 1) := by decide +kernel
theorem dX2_take_56 : decode cX2_take 56 = .ok (.goto 4, 3) := by decide +kernel
theorem dX2_take_59 : decode cX2_take 59 = .ok (.iconst 0, 1) := by decide +kernel
theorem dX2_take_60 : decode cX2_take 60 = .ok (.istore 5, 2) := by decide +kernel
theorem dX2_take_62 : decode cX2_take 62 = .ok (.iload 5, 2) := by decide +kernel
theorem dX2_take_64 : decode cX2_take 64 = .ok (.ifCond .ne 29, 3) := by decide +kernel
theorem dX2_take_67 : decode cX2_take 67 = .ok (.iload 4, 2) := by decide +kernel
theorem dX2_take_69 : decode cX2_take 69 = .ok (.ifCond .le 24, 3) := by decide +kernel
theorem dX2_take_72 : decode cX2_take 72 = .ok (.iinc 4 (-1), 3) := by decide +kernel
theorem dX2_take_75 : decode cX2_take 75 = .ok (.aload_n 0, 1) := by decide +kernel
theorem dX2_take_76 : decode cX2_take 76 = .ok (.getfield 11, 3) := by decide +kernel
theorem dX2_take_79 : decode cX2_take 79 = .ok (.lload_n 1, 1) := by decide +kernel
theorem dX2_take_80 : decode cX2_take 80 = .ok (.iload 4, 2) := by decide +kernel
theorem dX2_take_82 : decode cX2_take 82 = .ok (.invokestatic 21, 3) := by decide +kernel
theorem dX2_take_85 : decode cX2_take 85 = .ok (.dup2, 1) := by decide +kernel
theorem dX2_take_86 : decode cX2_take 86 = .ok (.iaload, 1) := by decide +kernel
theorem dX2_take_87 : decode cX2_take 87 = .ok (.iconst 1, 1) := by decide +kernel
theorem dX2_take_88 : decode cX2_take 88 = .ok (.iadd, 1) := by decide +kernel
theorem dX2_take_89 : decode cX2_take 89 = .ok (.iastore, 1) := by decide +kernel
theorem dX2_take_90 : decode cX2_take 90 = .ok (.goto (-28), 3) := by decide +kernel
theorem dX2_take_93 : decode cX2_take 93 = .ok (.iload 5, 2) := by decide +kernel
theorem dX2_take_95 : decode cX2_take 95 = .ok (.ireturn, 1) := by decide +kernel
theorem dX2_takeOne_0 : decode cX2_takeOne 0 = .ok (.aload_n 0, 1) := by decide +kernel
theorem dX2_takeOne_1 : decode cX2_takeOne 1 = .ok (.getfield 11, 3) := by decide +kernel
theorem dX2_takeOne_4 : decode cX2_takeOne 4 = .ok (.iload_n 1, 1) := by decide +kernel
theorem dX2_takeOne_5 : decode cX2_takeOne 5 = .ok (.bipush 31, 2) := by decide +kernel
theorem dX2_takeOne_7 : decode cX2_takeOne 7 = .ok (.iand, 1) := by decide +kernel
theorem dX2_takeOne_8 : decode cX2_takeOne 8 = .ok (.dup2, 1) := by decide +kernel
theorem dX2_takeOne_9 : decode cX2_takeOne 9 = .ok (.iaload, 1) := by decide +kernel
theorem dX2_takeOne_10 : decode cX2_takeOne 10 = .ok (.iconst 1, 1) := by decide +kernel
theorem dX2_takeOne_11 : decode cX2_takeOne 11 = .ok (.isub, 1) := by decide +kernel
theorem dX2_takeOne_12 : decode cX2_takeOne 12 = .ok (.iastore, 1) := by decide +kernel
theorem dX2_takeOne_13 : decode cX2_takeOne 13 = .ok (.return_, 1) := by decide +kernel
set_option maxRecDepth 20000 in
theorem ggX2_holds_X2_take : GoodIn wsX2_holds wsX2_take := goodIn_r _ [5, 6, 7, 8, 9, 10, 11, 12, 13, 18] (by decide +kernel) (by decide +kernel)
set_option maxRecDepth 20000 in
theorem gX2_holds_X2_take : GoodIn wsX2_holds (wsV RX2 25 RX2 yX2_take wsX2_take) := goodIn_app (goodIn_of _ (by decide +kernel)) ggX2_holds_X2_take
set_option maxRecDepth 20000 in
theorem ggX2_holds_X2_put : GoodIn wsX2_holds wsX2_put := goodIn_r _ [17, 6, 7, 8, 9, 10, 11, 12, 13, 18] (by decide +kernel) (by decide +kernel)
set_option maxRecDepth 20000 in
theorem gX2_holds_X2_put : GoodIn wsX2_holds (wsV RX2 29 RX2 yX2_put wsX2_put) := goodIn_app (goodIn_of _ (by decide +kernel)) ggX2_holds_X2_put
theorem dX2_holds_0 : decode cX2_holds 0 = .ok (.aload_n 0, 1) := by decide +kernel
theorem dX2_holds_1 : decode cX2_holds 1 = .ok (.lload_n 1, 1) := by decide +kernel
theorem dX2_holds_2 : decode cX2_holds 2 = .ok (.invokevirtual 25, 3) := by decide +kernel
theorem dX2_holds_5 : decode cX2_holds 5 = .ok (.istore_n 3, 1) := by decide +kernel
theorem dX2_holds_6 : decode cX2_holds 6 = .ok (.iload_n 3, 1) := by decide +kernel
theorem dX2_holds_7 : decode cX2_holds 7 = .ok (.ifCond .eq 9, 3) := by decide +kernel
theorem dX2_holds_10 : decode cX2_holds 10 = .ok (.aload_n 0, 1) := by decide +kernel
theorem dX2_holds_11 : decode cX2_holds 11 = .ok (.lload_n 1, 1) := by decide +kernel
theorem dX2_holds_12 : decode cX2_holds 12 = .ok (.iconst 1, 1) := by decide +kernel
theorem dX2_holds_13 : decode cX2_holds 13 = .ok (.invokevirtual 29, 3) := by decide +kernel
theorem dX2_holds_16 : decode cX2_holds 16 = .ok (.iload_n 3, 1) := by decide +kernel
theorem dX2_holds_17 : decode cX2_holds 17 = .ok (.ireturn, 1) := by decide +kernel
set_option maxRecDepth 20000 in
theorem ggX2_lacking_X7_occurrences : GoodIn wsX2_lacking wsX7_occurrences := goodIn_r _ [5, 6, 7, 4, 8, 9, 10, 11] (by decide +kernel) (by decide +kernel)
set_option maxRecDepth 20000 in
theorem gX2_lacking_X7_occurrences : GoodIn wsX2_lacking (va_wsS RX2 33 yX7_occurrences wsX7_occurrences) := goodIn_app (goodIn_of _ (by decide +kernel)) ggX2_lacking_X7_occurrences
theorem dX2_lacking_0 : decode cX2_lacking 0 = .ok (.iconst 1, 1) := by decide +kernel
theorem dX2_lacking_1 : decode cX2_lacking 1 = .ok (.istore_n 3, 1) := by decide +kernel
theorem dX2_lacking_2 : decode cX2_lacking 2 = .ok (.iload_n 3, 1) := by decide +kernel
theorem dX2_lacking_3 : decode cX2_lacking 3 = .ok (.bipush 26, 2) := by decide +kernel
theorem dX2_lacking_5 : decode cX2_lacking 5 = .ok (.if_icmp .gt 25, 3) := by decide +kernel
theorem dX2_lacking_8 : decode cX2_lacking 8 = .ok (.aload_n 0, 1) := by decide +kernel
theorem dX2_lacking_9 : decode cX2_lacking 9 = .ok (.getfield 11, 3) := by decide +kernel
theorem dX2_lacking_12 : decode cX2_lacking 12 = .ok (.iload_n 3, 1) := by decide +kernel
theorem dX2_lacking_13 : decode cX2_lacking 13 = .ok (.iaload, 1) := by decide +kernel
theorem dX2_lacking_14 : decode cX2_lacking 14 = .ok (.lload_n 1, 1) := by decide +kernel
theorem dX2_lacking_15 : decode cX2_lacking 15 = .ok (.iload_n 3, 1) := by decide +kernel
theorem dX2_lacking_16 : decode cX2_lacking 16 = .ok (.invokestatic 33, 3) := by decide +kernel
theorem dX2_lacking_19 : decode cX2_lacking 19 = .ok (.if_icmp .ge 5, 3) := by decide +kernel
theorem dX2_lacking_22 : decode cX2_lacking 22 = .ok (.iload_n 3, 1) := by decide +kernel
theorem dX2_lacking_23 : decode cX2_lacking 23 = .ok (.ireturn, 1) := by decide +kernel
theorem dX2_lacking_24 : decode cX2_lacking 24 = .ok (.iinc 3 1, 3) := by decide +kernel
theorem dX2_lacking_27 : decode cX2_lacking 27 = .ok (.goto (-25), 3) := by decide +kernel
theorem dX2_lacking_30 : decode cX2_lacking 30 = .ok (.iconst (-1), 1) := by decide +kernel
theorem dX2_lacking_31 : decode cX2_lacking 31 = .ok (.ireturn, 1) := by decide +kernel
set_option maxRecDepth 20000 in
theorem ggX3_init_X2_init : GoodIn wsX3_init wsX2_init := goodIn_r _ [14, 15, 2, 3, 16, 17, 23] (by decide +kernel) (by decide +kernel)
set_option maxRecDepth 20000 in
theorem gX3_init_X2_init_n9 : GoodIn wsX3_init (wsX2_init) := ggX3_init_X2_init
set_option maxRecDepth 20000 in
theorem ggX3_init_X6_init : GoodIn wsX3_init wsX6_init := goodIn_r _ [19, 20, 2, 3, 21, 22, 29, 30] (by decide +kernel) (by decide +kernel)
set_option maxRecDepth 20000 in
theorem gX3_init_X6_init_n18 : GoodIn wsX3_init (wsX6_init) := ggX3_init_X6_init
theorem dX3_init_0 : decode cX3_init 0 = .ok (.aload_n 0, 1) := by decide +kernel
theorem dX3_init_1 : decode cX3_init 1 = .ok (.invokespecial 1, 3) := by decide +kernel
theorem dX3_init_4 : decode cX3_init 4 = .ok (.aload_n 0, 1) := by decide +kernel
theorem dX3_init_5 : decode cX3_init 5 = .ok (.new 7, 3) := by decide +kernel
theorem dX3_init_8 : decode cX3_init 8 = .ok (.dup, 1) := by decide +kernel
theorem dX3_init_9 : decode cX3_init 9 = .ok (.invokespecial 9, 3) := by decide +kernel
theorem dX3_init_12 : decode cX3_init 12 = .ok (.putfield 10, 3) := by decide +kernel
theorem dX3_init_15 : decode cX3_init 15 = .ok (.aload_n 0, 1) := by decide +kernel
theorem dX3_init_16 : decode cX3_init 16 = .ok (.new 16, 3) := by decide +kernel
theorem dX3_init_19 : decode cX3_init 19 = .ok (.dup, 1) := by decide +kernel
theorem dX3_init_20 : decode cX3_init 20 = .ok (.invokespecial 18, 3) := by decide +kernel
theorem dX3_init_23 : decode cX3_init 23 = .ok (.putfield 19, 3) := by decide +kernel
theorem dX3_init_26 : decode cX3_init 26 = .ok (.aload_n 0, 1) := by decide +kernel
theorem dX3_init_27 : decode cX3_init 27 = .ok (.new 16, 3) := by decide +kernel
theorem dX3_init_30 : decode cX3_init 30 = .ok (.dup, 1) := by decide +kernel
theorem dX3_init_31 : decode cX3_init 31 = .ok (.invokespecial 18, 3) := by decide +kernel
theorem dX3_init_34 : decode cX3_init 34 = .ok (.putfield 23, 3) := by decide +kernel
theorem dX3_init_37 : decode cX3_init 37 = .ok (.return_, 1) := by decide +kernel
theorem dX3_best_0 : decode cX3_best 0 = .ok (.aload_n 0, 1) := by decide +kernel
theorem dX3_best_1 : decode cX3_best 1 = .ok (.getfield 23, 3) := by decide +kernel
theorem dX3_best_4 : decode cX3_best 4 = .ok (.areturn, 1) := by decide +kernel
theorem dX3_leftovers_0 : decode cX3_leftovers 0 = .ok (.aload_n 0, 1) := by decide +kernel
theorem dX3_leftovers_1 : decode cX3_leftovers 1 = .ok (.getfield 10, 3) := by decide +kernel
theorem dX3_leftovers_4 : decode cX3_leftovers 4 = .ok (.areturn, 1) := by decide +kernel
set_option maxRecDepth 20000 in
theorem ggX3_plan_X2_clear : GoodIn wsX3_plan wsX2_clear := goodIn_r _ [9, 10, 80] (by decide +kernel) (by decide +kernel)
set_option maxRecDepth 20000 in
theorem gX3_plan_X2_clear : GoodIn wsX3_plan (wsV RX3 26 RX2 yX2_clear wsX2_clear) := goodIn_app (goodIn_of _ (by decide +kernel)) ggX3_plan_X2_clear
set_option maxRecDepth 20000 in
theorem ggX3_plan_X2_put : GoodIn wsX3_plan wsX2_put := goodIn_r _ [14, 10, 15, 16, 17, 18, 19, 20, 21, 80] (by decide +kernel) (by decide +kernel)
set_option maxRecDepth 20000 in
theorem gX3_plan_X2_put : GoodIn wsX3_plan (wsV RX3 29 RX2 yX2_put wsX2_put) := goodIn_app (goodIn_of _ (by decide +kernel)) ggX3_plan_X2_put
set_option maxRecDepth 20000 in
theorem ggX3_plan_X6_clear : GoodIn wsX3_plan wsX6_clear := goodIn_r _ [26, 27, 81, 82] (by decide +kernel) (by decide +kernel)
set_option maxRecDepth 20000 in
theorem gX3_plan_X6_clear : GoodIn wsX3_plan (wsV RX3 33 RX6 yX6_clear wsX6_clear) := goodIn_app (goodIn_of _ (by decide +kernel)) ggX3_plan_X6_clear
set_option maxRecDepth 20000 in
theorem ggX3_plan_X3_longestOf : GoodIn wsX3_plan wsX3_longestOf := goodIn_r _ [31, 32, 33, 34, 35, 36, 37, 38, 25, 39, 27, 40, 41, 42, 43, 44, 45, 16, 17, 18, 81, 82] (by decide +kernel) (by decide +kernel)
set_option maxRecDepth 20000 in
theorem gX3_plan_X3_longestOf : GoodIn wsX3_plan (va_wsS RX3 38 yX3_longestOf wsX3_longestOf) := goodIn_app (goodIn_of _ (by decide +kernel)) ggX3_plan_X3_longestOf
set_option maxRecDepth 20000 in
theorem ggX3_plan_X3_fillPlaces : GoodIn wsX3_plan wsX3_fillPlaces := goodIn_r _ [49, 4, 3, 36, 37, 38, 25, 39, 27, 40, 41, 42, 43, 44, 45, 16, 17, 18, 50, 51, 52, 30, 53, 1, 54, 2, 55, 56, 57, 8, 58, 10, 15, 19, 20, 21, 59, 60, 61, 62, 63, 64, 65, 66, 46, 47, 48, 67, 68, 69, 70, 71, 72, 73, 74, 11, 12, 13, 14, 75, 76, 77, 78, 79, 81, 82, 80] (by decide +kernel) (by decide +kernel)
set_option maxRecDepth 20000 in
theorem gX3_plan_X3_fillPlaces : GoodIn wsX3_plan (wsV RX3 45 RX3 yX3_fillPlaces wsX3_fillPlaces) := goodIn_app (goodIn_of _ (by decide +kernel)) ggX3_plan_X3_fillPlaces
set_option maxRecDepth 20000 in
theorem ggX3_plan_X6_size : GoodIn wsX3_plan wsX6_size := goodIn_r _ [39, 27, 81, 82] (by decide +kernel) (by decide +kernel)
set_option maxRecDepth 20000 in
theorem gX3_plan_X6_size : GoodIn wsX3_plan (wsV RX3 49 RX6 yX6_size wsX6_size) := goodIn_app (goodIn_of _ (by decide +kernel)) ggX3_plan_X6_size
set_option maxRecDepth 20000 in
theorem ggX3_plan_X6_word : GoodIn wsX3_plan wsX6_word := goodIn_r _ [43, 27, 44, 81, 82] (by decide +kernel) (by decide +kernel)
set_option maxRecDepth 20000 in
theorem gX3_plan_X6_word : GoodIn wsX3_plan (wsV RX3 53 RX6 yX6_word wsX6_word) := goodIn_app (goodIn_of _ (by decide +kernel)) ggX3_plan_X6_word
set_option maxRecDepth 20000 in
theorem ggX3_plan_X2_take : GoodIn wsX3_plan wsX2_take := goodIn_r _ [58, 10, 15, 16, 17, 18, 19, 20, 21, 80] (by decide +kernel) (by decide +kernel)
set_option maxRecDepth 20000 in
theorem gX3_plan_X2_take : GoodIn wsX3_plan (wsV RX3 57 RX2 yX2_take wsX2_take) := goodIn_app (goodIn_of _ (by decide +kernel)) ggX3_plan_X2_take
theorem dX3_plan_0 : decode cX3_plan 0 = .ok (.aload_n 0, 1) := by decide +kernel
theorem dX3_plan_1 : decode cX3_plan 1 = .ok (.getfield 10, 3) := by decide +kernel
theorem dX3_plan_4 : decode cX3_plan 4 = .ok (.invokevirtual 26, 3) := by decide +kernel
theorem dX3_plan_7 : decode cX3_plan 7 = .ok (.aload_n 0, 1) := by decide +kernel
theorem dX3_plan_8 : decode cX3_plan 8 = .ok (.getfield 10, 3) := by decide +kernel
theorem dX3_plan_11 : decode cX3_plan 11 = .ok (.lload_n 2, 1) := by decide +kernel
theorem dX3_plan_12 : decode cX3_plan 12 = .ok (.iconst 1, 1) := by decide +kernel
theorem dX3_plan_13 : decode cX3_plan 13 = .ok (.invokevirtual 29, 3) := by decide +kernel
theorem dX3_plan_16 : decode cX3_plan 16 = .ok (.aload_n 0, 1) := by decide +kernel
theorem dX3_plan_17 : decode cX3_plan 17 = .ok (.getfield 23, 3) := by decide +kernel
theorem dX3_plan_20 : decode cX3_plan 20 = .ok (.invokevirtual 33, 3) := by decide +kernel
theorem dX3_plan_23 : decode cX3_plan 23 = .ok (.aload_n 0, 1) := by decide +kernel
theorem dX3_plan_24 : decode cX3_plan 24 = .ok (.iconst 0, 1) := by decide +kernel
theorem dX3_plan_25 : decode cX3_plan 25 = .ok (.putfield 34, 3) := by decide +kernel
theorem dX3_plan_28 : decode cX3_plan 28 = .ok (.aload_n 0, 1) := by decide +kernel
theorem dX3_plan_29 : decode cX3_plan 29 = .ok (.aload_n 1, 1) := by decide +kernel
theorem dX3_plan_30 : decode cX3_plan 30 = .ok (.invokestatic 38, 3) := by decide +kernel
theorem dX3_plan_33 : decode cX3_plan 33 = .ok (.putfield 42, 3) := by decide +kernel
theorem dX3_plan_36 : decode cX3_plan 36 = .ok (.iconst 1, 1) := by decide +kernel
theorem dX3_plan_37 : decode cX3_plan 37 = .ok (.istore 5, 2) := by decide +kernel
theorem dX3_plan_39 : decode cX3_plan 39 = .ok (.iload 5, 2) := by decide +kernel
theorem dX3_plan_41 : decode cX3_plan 41 = .ok (.iload 4, 2) := by decide +kernel
theorem dX3_plan_43 : decode cX3_plan 43 = .ok (.if_icmp .gt 24, 3) := by decide +kernel
theorem dX3_plan_46 : decode cX3_plan 46 = .ok (.iload 5, 2) := by decide +kernel
theorem dX3_plan_48 : decode cX3_plan 48 = .ok (.iconst 3, 1) := by decide +kernel
theorem dX3_plan_49 : decode cX3_plan 49 = .ok (.if_icmp .gt 18, 3) := by decide +kernel
theorem dX3_plan_52 : decode cX3_plan 52 = .ok (.aload_n 0, 1) := by decide +kernel
theorem dX3_plan_53 : decode cX3_plan 53 = .ok (.aload_n 1, 1) := by decide +kernel
theorem dX3_plan_54 : decode cX3_plan 54 = .ok (.iload 5, 2) := by decide +kernel
theorem dX3_plan_56 : decode cX3_plan 56 = .ok (.iconst 0, 1) := by decide +kernel
theorem dX3_plan_57 : decode cX3_plan 57 = .ok (.iconst 0, 1) := by decide +kernel
theorem dX3_plan_58 : decode cX3_plan 58 = .ok (.invokevirtual 45, 3) := by decide +kernel
theorem dX3_plan_61 : decode cX3_plan 61 = .ok (.iinc 5 1, 3) := by decide +kernel
theorem dX3_plan_64 : decode cX3_plan 64 = .ok (.goto (-25), 3) := by decide +kernel
theorem dX3_plan_67 : decode cX3_plan 67 = .ok (.iconst 0, 1) := by decide +kernel
theorem dX3_plan_68 : decode cX3_plan 68 = .ok (.istore 5, 2) := by decide +kernel
theorem dX3_plan_70 : decode cX3_plan 70 = .ok (.iload 5, 2) := by decide +kernel
theorem dX3_plan_72 : decode cX3_plan 72 = .ok (.aload_n 0, 1) := by decide +kernel
theorem dX3_plan_73 : decode cX3_plan 73 = .ok (.getfield 23, 3) := by decide +kernel
theorem dX3_plan_76 : decode cX3_plan 76 = .ok (.invokevirtual 49, 3) := by decide +kernel
theorem dX3_plan_79 : decode cX3_plan 79 = .ok (.if_icmp .ge 26, 3) := by decide +kernel
theorem dX3_plan_82 : decode cX3_plan 82 = .ok (.aload_n 0, 1) := by decide +kernel
theorem dX3_plan_83 : decode cX3_plan 83 = .ok (.getfield 10, 3) := by decide +kernel
theorem dX3_plan_86 : decode cX3_plan 86 = .ok (.aload_n 0, 1) := by decide +kernel
theorem dX3_plan_87 : decode cX3_plan 87 = .ok (.getfield 23, 3) := by decide +kernel
theorem dX3_plan_90 : decode cX3_plan 90 = .ok (.iload 5, 2) := by decide +kernel
theorem dX3_plan_92 : decode cX3_plan 92 = .ok (.invokevirtual 53, 3) := by decide +kernel
theorem dX3_plan_95 : decode cX3_plan 95 = .ok (.invokevirtual 57, 3) := by decide +kernel
theorem dX3_plan_98 : decode cX3_plan 98 = .ok (.pop, 1) := by decide +kernel
theorem dX3_plan_99 : decode cX3_plan 99 = .ok (.iinc 5 1, 3) := by decide +kernel
theorem dX3_plan_102 : decode cX3_plan 102 = .ok (.goto (-32), 3) := by decide +kernel
theorem dX3_plan_105 : decode cX3_plan 105 = .ok (.return_, 1) := by decide +kernel
set_option maxRecDepth 20000 in
theorem ggX3_longestOf_X6_size : GoodIn wsX3_longestOf wsX6_size := goodIn_r _ [9, 10, 20, 21] (by decide +kernel) (by decide +kernel)
set_option maxRecDepth 20000 in
theorem gX3_longestOf_X6_size : GoodIn wsX3_longestOf (wsV RX3 49 RX6 yX6_size wsX6_size) := goodIn_app (goodIn_of _ (by decide +kernel)) ggX3_longestOf_X6_size
set_option maxRecDepth 20000 in
theorem ggX3_longestOf_X6_word : GoodIn wsX3_longestOf wsX6_word := goodIn_r _ [14, 10, 15, 20, 21] (by decide +kernel) (by decide +kernel)
set_option maxRecDepth 20000 in
theorem gX3_longestOf_X6_word : GoodIn wsX3_longestOf (wsV RX3 53 RX6 yX6_word wsX6_word) := goodIn_app (goodIn_of _ (by decide +kernel)) ggX3_longestOf_X6_word
set_option maxRecDepth 20000 in
theorem ggX3_longestOf_X7_lengthOf : GoodIn wsX3_longestOf wsX7_lengthOf := goodIn_r _ [19] (by decide +kernel) (by decide +kernel)
set_option maxRecDepth 20000 in
theorem gX3_longestOf_X7_lengthOf : GoodIn wsX3_longestOf (va_wsS RX3 61 yX7_lengthOf wsX7_lengthOf) := goodIn_app (goodIn_of _ (by decide +kernel)) ggX3_longestOf_X7_lengthOf
theorem dX3_longestOf_0 : decode cX3_longestOf 0 = .ok (.iconst 0, 1) := by decide +kernel
theorem dX3_longestOf_1 : decode cX3_longestOf 1 = .ok (.istore_n 1, 1) := by decide +kernel
theorem dX3_longestOf_2 : decode cX3_longestOf 2 = .ok (.iconst 0, 1) := by decide +kernel
theorem dX3_longestOf_3 : decode cX3_longestOf 3 = .ok (.istore_n 2, 1) := by decide +kernel
theorem dX3_longestOf_4 : decode cX3_longestOf 4 = .ok (.iload_n 2, 1) := by decide +kernel
theorem dX3_longestOf_5 : decode cX3_longestOf 5 = .ok (.aload_n 0, 1) := by decide +kernel
theorem dX3_longestOf_6 : decode cX3_longestOf 6 = .ok (.invokevirtual 49, 3) := by decide +kernel
theorem dX3_longestOf_9 : decode cX3_longestOf 9 = .ok (.if_icmp .ge 22, 3) := by decide +kernel
theorem dX3_longestOf_12 : decode cX3_longestOf 12 = .ok (.iload_n 1, 1) := by decide +kernel
theorem dX3_longestOf_13 : decode cX3_longestOf 13 = .ok (.aload_n 0, 1) := by decide +kernel
theorem dX3_longestOf_14 : decode cX3_longestOf 14 = .ok (.iload_n 2, 1) := by decide +kernel
theorem dX3_longestOf_15 : decode cX3_longestOf 15 = .ok (.invokevirtual 53, 3) := by decide +kernel
theorem dX3_longestOf_18 : decode cX3_longestOf 18 = .ok (.invokestatic 61, 3) := by decide +kernel
theorem dX3_longestOf_21 : decode cX3_longestOf 21 = .ok (.invokestatic 67, 3) := by decide +kernel
theorem dX3_longestOf_24 : decode cX3_longestOf 24 = .ok (.istore_n 1, 1) := by decide +kernel
theorem dX3_longestOf_25 : decode cX3_longestOf 25 = .ok (.iinc 2 1, 3) := by decide +kernel
theorem dX3_longestOf_28 : decode cX3_longestOf 28 = .ok (.goto (-24), 3) := by decide +kernel
theorem dX3_longestOf_31 : decode cX3_longestOf 31 = .ok (.iload_n 1, 1) := by decide +kernel
theorem dX3_longestOf_32 : decode cX3_longestOf 32 = .ok (.ireturn, 1) := by decide +kernel
set_option maxRecDepth 20000 in
theorem ggX3_fillPlaces_X6_size : GoodIn wsX3_fillPlaces wsX6_size := goodIn_r _ [7, 8, 64, 65] (by decide +kernel) (by decide +kernel)
set_option maxRecDepth 20000 in
theorem gX3_fillPlaces_X6_size : GoodIn wsX3_fillPlaces (wsV RX3 49 RX6 yX6_size wsX6_size) := goodIn_app (goodIn_of _ (by decide +kernel)) ggX3_fillPlaces_X6_size
set_option maxRecDepth 20000 in
theorem ggX3_fillPlaces_X6_word : GoodIn wsX3_fillPlaces wsX6_word := goodIn_r _ [12, 8, 13, 64, 65] (by decide +kernel) (by decide +kernel)
set_option maxRecDepth 20000 in
theorem gX3_fillPlaces_X6_word : GoodIn wsX3_fillPlaces (wsV RX3 53 RX6 yX6_word wsX6_word) := goodIn_app (goodIn_of _ (by decide +kernel)) ggX3_fillPlaces_X6_word
set_option maxRecDepth 20000 in
theorem ggX3_fillPlaces_X7_lengthOf : GoodIn wsX3_fillPlaces wsX7_lengthOf := goodIn_r _ [17] (by decide +kernel) (by decide +kernel)
set_option maxRecDepth 20000 in
theorem gX3_fillPlaces_X7_lengthOf : GoodIn wsX3_fillPlaces (va_wsS RX3 61 yX7_lengthOf wsX7_lengthOf) := goodIn_app (goodIn_of _ (by decide +kernel)) ggX3_fillPlaces_X7_lengthOf
set_option maxRecDepth 20000 in
theorem ggX3_fillPlaces_X3_tryWord : GoodIn wsX3_fillPlaces wsX3_tryWord := goodIn_r _ [22, 23, 24, 25, 2, 9, 10, 11, 6, 12, 8, 13, 26, 27, 28, 29, 30, 31, 32, 15, 16, 17, 33, 34, 35, 36, 37, 38, 39, 40, 41, 42, 43, 44, 45, 46, 21, 47, 48, 49, 50, 3, 4, 5, 7, 51, 52, 53, 54, 55, 56, 57, 58, 0, 1, 14, 18, 19, 20, 59, 60, 61, 62, 63, 64, 65, 66] (by decide +kernel) (by decide +kernel)
set_option maxRecDepth 20000 in
theorem gX3_fillPlaces_X3_tryWord : GoodIn wsX3_fillPlaces (wsV RX3 73 RX3 yX3_tryWord wsX3_tryWord) := goodIn_app (goodIn_of _ (by decide +kernel)) ggX3_fillPlaces_X3_tryWord
theorem dX3_fillPlaces_0 : decode cX3_fillPlaces 0 = .ok (.iload_n 2, 1) := by decide +kernel
theorem dX3_fillPlaces_1 : decode cX3_fillPlaces 1 = .ok (.iconst 1, 1) := by decide +kernel
theorem dX3_fillPlaces_2 : decode cX3_fillPlaces 2 = .ok (.if_icmp .lt 8, 3) := by decide +kernel
theorem dX3_fillPlaces_5 : decode cX3_fillPlaces 5 = .ok (.iload_n 2, 1) := by decide +kernel
theorem dX3_fillPlaces_6 : decode cX3_fillPlaces 6 = .ok (.iconst 3, 1) := by decide +kernel
theorem dX3_fillPlaces_7 : decode cX3_fillPlaces 7 = .ok (.if_icmp .le 4, 3) := by decide +kernel
theorem dX3_fillPlaces_10 : decode cX3_fillPlaces 10 = .ok (.return_, 1) := by decide +kernel
theorem dX3_fillPlaces_11 : decode cX3_fillPlaces 11 = .ok (.iload_n 3, 1) := by decide +kernel
theorem dX3_fillPlaces_12 : decode cX3_fillPlaces 12 = .ok (.istore 5, 2) := by decide +kernel
theorem dX3_fillPlaces_14 : decode cX3_fillPlaces 14 = .ok (.iload 5, 2) := by decide +kernel
theorem dX3_fillPlaces_16 : decode cX3_fillPlaces 16 = .ok (.aload_n 1, 1) := by decide +kernel
theorem dX3_fillPlaces_17 : decode cX3_fillPlaces 17 = .ok (.invokevirtual 49, 3) := by decide +kernel
theorem dX3_fillPlaces_20 : decode cX3_fillPlaces 20 = .ok (.if_icmp .ge 55, 3) := by decide +kernel
theorem dX3_fillPlaces_23 : decode cX3_fillPlaces 23 = .ok (.iload 4, 2) := by decide +kernel
theorem dX3_fillPlaces_25 : decode cX3_fillPlaces 25 = .ok (.aload_n 1, 1) := by decide +kernel
theorem dX3_fillPlaces_26 : decode cX3_fillPlaces 26 = .ok (.iload 5, 2) := by decide +kernel
theorem dX3_fillPlaces_28 : decode cX3_fillPlaces 28 = .ok (.invokevirtual 53, 3) := by decide +kernel
theorem dX3_fillPlaces_31 : decode cX3_fillPlaces 31 = .ok (.invokestatic 61, 3) := by decide +kernel
theorem dX3_fillPlaces_34 : decode cX3_fillPlaces 34 = .ok (.iadd, 1) := by decide +kernel
theorem dX3_fillPlaces_35 : decode cX3_fillPlaces 35 = .ok (.istore 6, 2) := by decide +kernel
theorem dX3_fillPlaces_37 : decode cX3_fillPlaces 37 = .ok (.iload 6, 2) := by decide +kernel
theorem dX3_fillPlaces_39 : decode cX3_fillPlaces 39 = .ok (.iload_n 2, 1) := by decide +kernel
theorem dX3_fillPlaces_40 : decode cX3_fillPlaces 40 = .ok (.iconst 1, 1) := by decide +kernel
theorem dX3_fillPlaces_41 : decode cX3_fillPlaces 41 = .ok (.isub, 1) := by decide +kernel
theorem dX3_fillPlaces_42 : decode cX3_fillPlaces 42 = .ok (.aload_n 0, 1) := by decide +kernel
theorem dX3_fillPlaces_43 : decode cX3_fillPlaces 43 = .ok (.getfield 42, 3) := by decide +kernel
theorem dX3_fillPlaces_46 : decode cX3_fillPlaces 46 = .ok (.imul, 1) := by decide +kernel
theorem dX3_fillPlaces_47 : decode cX3_fillPlaces 47 = .ok (.iadd, 1) := by decide +kernel
theorem dX3_fillPlaces_48 : decode cX3_fillPlaces 48 = .ok (.istore 7, 2) := by decide +kernel
theorem dX3_fillPlaces_50 : decode cX3_fillPlaces 50 = .ok (.iload 7, 2) := by decide +kernel
theorem dX3_fillPlaces_52 : decode cX3_fillPlaces 52 = .ok (.aload_n 0, 1) := by decide +kernel
theorem dX3_fillPlaces_53 : decode cX3_fillPlaces 53 = .ok (.getfield 34, 3) := by decide +kernel
theorem dX3_fillPlaces_56 : decode cX3_fillPlaces 56 = .ok (.if_icmp .le 13, 3) := by decide +kernel
theorem dX3_fillPlaces_59 : decode cX3_fillPlaces 59 = .ok (.aload_n 0, 1) := by decide +kernel
theorem dX3_fillPlaces_60 : decode cX3_fillPlaces 60 = .ok (.aload_n 1, 1) := by decide +kernel
theorem dX3_fillPlaces_61 : decode cX3_fillPlaces 61 = .ok (.iload_n 2, 1) := by decide +kernel
theorem dX3_fillPlaces_62 : decode cX3_fillPlaces 62 = .ok (.iload 5, 2) := by decide +kernel
theorem dX3_fillPlaces_64 : decode cX3_fillPlaces 64 = .ok (.iload 6, 2) := by decide +kernel
theorem dX3_fillPlaces_66 : decode cX3_fillPlaces 66 = .ok (.invokevirtual 73, 3) := by decide +kernel
theorem dX3_fillPlaces_69 : decode cX3_fillPlaces 69 = .ok (.iinc 5 1, 3) := by decide +kernel
theorem dX3_fillPlaces_72 : decode cX3_fillPlaces 72 = .ok (.goto (-58), 3) := by decide +kernel
theorem dX3_fillPlaces_75 : decode cX3_fillPlaces 75 = .ok (.return_, 1) := by decide +kernel
set_option maxRecDepth 20000 in
theorem ggX3_tryWord_X6_word : GoodIn wsX3_tryWord wsX6_word := goodIn_r _ [9, 10, 11, 64, 65] (by decide +kernel) (by decide +kernel)
set_option maxRecDepth 20000 in
theorem gX3_tryWord_X6_word : GoodIn wsX3_tryWord (wsV RX3 53 RX6 yX6_word wsX6_word) := goodIn_app (goodIn_of _ (by decide +kernel)) ggX3_tryWord_X6_word
set_option maxRecDepth 20000 in
theorem ggX3_tryWord_X2_take : GoodIn wsX3_tryWord wsX2_take := goodIn_r _ [16, 17, 18, 19, 20, 21, 22, 23, 24, 66] (by decide +kernel) (by decide +kernel)
set_option maxRecDepth 20000 in
theorem gX3_tryWord_X2_take : GoodIn wsX3_tryWord (wsV RX3 57 RX2 yX2_take wsX2_take) := goodIn_app (goodIn_of _ (by decide +kernel)) ggX3_tryWord_X2_take
set_option maxRecDepth 20000 in
theorem ggX3_tryWord_X6_append : GoodIn wsX3_tryWord wsX6_append := goodIn_r _ [28, 10, 29, 30, 31, 8, 32, 11, 64, 65] (by decide +kernel) (by decide +kernel)
set_option maxRecDepth 20000 in
theorem gX3_tryWord_X6_append : GoodIn wsX3_tryWord (wsV RX3 76 RX6 yX6_append wsX6_append) := goodIn_app (goodIn_of _ (by decide +kernel)) ggX3_tryWord_X6_append
set_option maxRecDepth 20000 in
theorem ggX3_tryWord_X3_fillPlaces : GoodIn wsX3_tryWord wsX3_fillPlaces := goodIn_r _ [53, 54, 4, 41, 42, 43, 8, 44, 10, 5, 6, 7, 9, 11, 55, 19, 20, 21, 56, 57, 58, 36, 0, 1, 2, 3, 12, 13, 14, 15, 16, 17, 18, 22, 23, 24, 25, 26, 27, 28, 29, 30, 31, 32, 33, 34, 35, 37, 38, 39, 40, 45, 46, 47, 48, 49, 50, 51, 52, 59, 60, 61, 62, 63, 64, 65, 66] (by decide +kernel) (by decide +kernel)
set_option maxRecDepth 20000 in
theorem gX3_tryWord_X3_fillPlaces : GoodIn wsX3_tryWord (wsV RX3 45 RX3 yX3_fillPlaces wsX3_fillPlaces) := goodIn_app (goodIn_of _ (by decide +kernel)) ggX3_tryWord_X3_fillPlaces
set_option maxRecDepth 20000 in
theorem ggX3_tryWord_X6_copy : GoodIn wsX3_tryWord wsX6_copy := goodIn_r _ [40, 10, 11, 64, 65] (by decide +kernel) (by decide +kernel)
set_option maxRecDepth 20000 in
theorem gX3_tryWord_X6_copy : GoodIn wsX3_tryWord (wsV RX3 80 RX6 yX6_copy wsX6_copy) := goodIn_app (goodIn_of _ (by decide +kernel)) ggX3_tryWord_X6_copy
set_option maxRecDepth 20000 in
theorem ggX3_tryWord_X6_size : GoodIn wsX3_tryWord wsX6_size := goodIn_r _ [44, 10, 64, 65] (by decide +kernel) (by decide +kernel)
set_option maxRecDepth 20000 in
theorem gX3_tryWord_X6_size : GoodIn wsX3_tryWord (wsV RX3 49 RX6 yX6_size wsX6_size) := goodIn_app (goodIn_of _ (by decide +kernel)) ggX3_tryWord_X6_size
set_option maxRecDepth 20000 in
theorem ggX3_tryWord_X6_delete : GoodIn wsX3_tryWord wsX6_delete := goodIn_r _ [48, 10, 11, 64, 65] (by decide +kernel) (by decide +kernel)
set_option maxRecDepth 20000 in
theorem gX3_tryWord_X6_delete : GoodIn wsX3_tryWord (wsV RX3 84 RX6 yX6_delete wsX6_delete) := goodIn_app (goodIn_of _ (by decide +kernel)) ggX3_tryWord_X6_delete
set_option maxRecDepth 20000 in
theorem ggX3_tryWord_X2_put : GoodIn wsX3_tryWord wsX2_put := goodIn_r _ [52, 17, 18, 19, 20, 21, 22, 23, 24, 66] (by decide +kernel) (by decide +kernel)
set_option maxRecDepth 20000 in
theorem gX3_tryWord_X2_put : GoodIn wsX3_tryWord (wsV RX3 29 RX2 yX2_put wsX2_put) := goodIn_app (goodIn_of _ (by decide +kernel)) ggX3_tryWord_X2_put
theorem dX3_tryWord_0 : decode cX3_tryWord 0 = .ok (.aload_n 1, 1) := by decide +kernel
theorem dX3_tryWord_1 : decode cX3_tryWord 1 = .ok (.iload_n 3, 1) := by decide +kernel
theorem dX3_tryWord_2 : decode cX3_tryWord 2 = .ok (.invokevirtual 53, 3) := by decide +kernel
theorem dX3_tryWord_5 : decode cX3_tryWord 5 = .ok (.lstore 5, 2) := by decide +kernel
theorem dX3_tryWord_7 : decode cX3_tryWord 7 = .ok (.aload_n 0, 1) := by decide +kernel
theorem dX3_tryWord_8 : decode cX3_tryWord 8 = .ok (.getfield 10, 3) := by decide +kernel
theorem dX3_tryWord_11 : decode cX3_tryWord 11 = .ok (.lload 5, 2) := by decide +kernel
theorem dX3_tryWord_13 : decode cX3_tryWord 13 = .ok (.invokevirtual 57, 3) := by decide +kernel
theorem dX3_tryWord_16 : decode cX3_tryWord 16 = .ok (.ifCond .ne 4, 3) := by decide +kernel
theorem dX3_tryWord_19 : decode cX3_tryWord 19 = .ok (.return_, 1) := by decide +kernel
theorem dX3_tryWord_20 : decode cX3_tryWord 20 = .ok (.aload_n 0, 1) := by decide +kernel
theorem dX3_tryWord_21 : decode cX3_tryWord 21 = .ok (.getfield 19, 3) := by decide +kernel
theorem dX3_tryWord_24 : decode cX3_tryWord 24 = .ok (.lload 5, 2) := by decide +kernel
theorem dX3_tryWord_26 : decode cX3_tryWord 26 = .ok (.invokevirtual 76, 3) := by decide +kernel
theorem dX3_tryWord_29 : decode cX3_tryWord 29 = .ok (.iload_n 2, 1) := by decide +kernel
theorem dX3_tryWord_30 : decode cX3_tryWord 30 = .ok (.iconst 1, 1) := by decide +kernel
theorem dX3_tryWord_31 : decode cX3_tryWord 31 = .ok (.if_icmp .le 17, 3) := by decide +kernel
theorem dX3_tryWord_34 : decode cX3_tryWord 34 = .ok (.aload_n 0, 1) := by decide +kernel
theorem dX3_tryWord_35 : decode cX3_tryWord 35 = .ok (.aload_n 1, 1) := by decide +kernel
theorem dX3_tryWord_36 : decode cX3_tryWord 36 = .ok (.iload_n 2, 1) := by decide +kernel
theorem dX3_tryWord_37 : decode cX3_tryWord 37 = .ok (.iconst 1, 1) := by decide +kernel
theorem dX3_tryWord_38 : decode cX3_tryWord 38 = .ok (.isub, 1) := by decide +kernel
theorem dX3_tryWord_39 : decode cX3_tryWord 39 = .ok (.iload_n 3, 1) := by decide +kernel
theorem dX3_tryWord_40 : decode cX3_tryWord 40 = .ok (.iload 4, 2) := by decide +kernel
theorem dX3_tryWord_42 : decode cX3_tryWord 42 = .ok (.invokevirtual 45, 3) := by decide +kernel
theorem dX3_tryWord_45 : decode cX3_tryWord 45 = .ok (.goto 20, 3) := by decide +kernel
theorem dX3_tryWord_48 : decode cX3_tryWord 48 = .ok (.aload_n 0, 1) := by decide +kernel
theorem dX3_tryWord_49 : decode cX3_tryWord 49 = .ok (.getfield 23, 3) := by decide +kernel
theorem dX3_tryWord_52 : decode cX3_tryWord 52 = .ok (.aload_n 0, 1) := by decide +kernel
theorem dX3_tryWord_53 : decode cX3_tryWord 53 = .ok (.getfield 19, 3) := by decide +kernel
theorem dX3_tryWord_56 : decode cX3_tryWord 56 = .ok (.invokevirtual 80, 3) := by decide +kernel
theorem dX3_tryWord_59 : decode cX3_tryWord 59 = .ok (.aload_n 0, 1) := by decide +kernel
theorem dX3_tryWord_60 : decode cX3_tryWord 60 = .ok (.iload 4, 2) := by decide +kernel
theorem dX3_tryWord_62 : decode cX3_tryWord 62 = .ok (.putfield 34, 3) := by decide +kernel
theorem dX3_tryWord_65 : decode cX3_tryWord 65 = .ok (.aload_n 0, 1) := by decide +kernel
theorem dX3_tryWord_66 : decode cX3_tryWord 66 = .ok (.getfield 19, 3) := by decide +kernel
theorem dX3_tryWord_69 : decode cX3_tryWord 69 = .ok (.aload_n 0, 1) := by decide +kernel
theorem dX3_tryWord_70 : decode cX3_tryWord 70 = .ok (.getfield 19, 3) := by decide +kernel
theorem dX3_tryWord_73 : decode cX3_tryWord 73 = .ok (.invokevirtual 49, 3) := by decide +kernel
theorem dX3_tryWord_76 : decode cX3_tryWord 76 = .ok (.iconst 1, 1) := by decide +kernel
theorem dX3_tryWord_77 : decode cX3_tryWord 77 = .ok (.isub, 1) := by decide +kernel
theorem dX3_tryWord_78 : decode cX3_tryWord 78 = .ok (.invokevirtual 84, 3) := by decide +kernel
theorem dX3_tryWord_81 : decode cX3_tryWord 81 = .ok (.aload_n 0, 1) := by decide +kernel
theorem dX3_tryWord_82 : decode cX3_tryWord 82 = .ok (.getfield 10, 3) := by decide +kernel
theorem dX3_tryWord_85 : decode cX3_tryWord 85 = .ok (.lload 5, 2) := by decide +kernel
theorem dX3_tryWord_87 : decode cX3_tryWord 87 = .ok (.iconst 1, 1) := by decide +kernel
theorem dX3_tryWord_88 : decode cX3_tryWord 88 = .ok (.invokevirtual 29, 3) := by decide +kernel
theorem dX3_tryWord_91 : decode cX3_tryWord 91 = .ok (.return_, 1) := by decide +kernel
theorem dX4_init_0 : decode cX4_init 0 = .ok (.aload_n 0, 1) := by decide +kernel
theorem dX4_init_1 : decode cX4_init 1 = .ok (.invokespecial 1, 3) := by decide +kernel
theorem dX4_init_4 : decode cX4_init 4 = .ok (.aload_n 0, 1) := by decide +kernel
theorem dX4_init_5 : decode cX4_init 5 = .ok (.lload_n 1, 1) := by decide +kernel
theorem dX4_init_6 : decode cX4_init 6 = .ok (.putfield 7, 3) := by decide +kernel
theorem dX4_init_9 : decode cX4_init 9 = .ok (.aload_n 0, 1) := by decide +kernel
theorem dX4_init_10 : decode cX4_init 10 = .ok (.iload_n 3, 1) := by decide +kernel
theorem dX4_init_11 : decode cX4_init 11 = .ok (.putfield 13, 3) := by decide +kernel
theorem dX4_init_14 : decode cX4_init 14 = .ok (.return_, 1) := by decide +kernel
theorem dX4_refund_0 : decode cX4_refund 0 = .ok (.aload_n 0, 1) := by decide +kernel
theorem dX4_refund_1 : decode cX4_refund 1 = .ok (.getfield 13, 3) := by decide +kernel
theorem dX4_refund_4 : decode cX4_refund 4 = .ok (.aload_n 0, 1) := by decide +kernel
theorem dX4_refund_5 : decode cX4_refund 5 = .ok (.getfield 13, 3) := by decide +kernel
theorem dX4_refund_8 : decode cX4_refund 8 = .ok (.bipush 10, 2) := by decide +kernel
theorem dX4_refund_10 : decode cX4_refund 10 = .ok (.idiv, 1) := by decide +kernel
theorem dX4_refund_11 : decode cX4_refund 11 = .ok (.isub, 1) := by decide +kernel
theorem dX4_refund_12 : decode cX4_refund 12 = .ok (.ireturn, 1) := by decide +kernel
set_option maxRecDepth 20000 in
theorem ggX5_init_X2_init : GoodIn wsX5_init wsX2_init := goodIn_r _ [12, 13, 2, 3, 8, 14, 114] (by decide +kernel) (by decide +kernel)
set_option maxRecDepth 20000 in
theorem gX5_init_X2_init_n9 : GoodIn wsX5_init (wsX2_init) := ggX5_init_X2_init
set_option maxRecDepth 20000 in
theorem ggX5_init_X5_firstPrice : GoodIn wsX5_init wsX5_firstPrice := goodIn_r _ [18, 19, 20, 17, 21, 22, 23, 24, 25, 26, 27, 28, 29, 30, 31, 32, 33, 34, 35, 36, 37, 38, 39, 40, 41, 42, 43, 44, 45, 46, 47, 48, 49, 50, 51, 52, 53, 54, 55, 56, 57, 58, 59, 60, 61, 62, 63, 64, 65, 66, 67, 68, 69, 70, 71, 72, 73, 74, 75, 76, 77, 78, 79, 80, 81, 82, 83, 84, 85, 86, 87, 88, 89, 90, 91, 92, 93, 94, 95, 96, 97, 98, 99, 100, 101, 102, 103, 104, 105, 106, 107, 108, 109, 110] (by decide +kernel) (by decide +kernel)
set_option maxRecDepth 20000 in
theorem gX5_init_X5_firstPrice : GoodIn wsX5_init (va_wsS RX5 25 yX5_firstPrice wsX5_firstPrice) := goodIn_app (goodIn_of _ (by decide +kernel)) ggX5_init_X5_firstPrice
set_option maxRecDepth 20000 in
theorem ggX5_init_X5_weight : GoodIn wsX5_init wsX5_weight := goodIn_r _ [113, 19, 20, 17, 21, 22, 23, 24, 25, 26, 27, 28, 29, 30, 31, 32, 33, 34, 35, 36, 37, 38, 39, 40, 41, 42, 43, 44, 45, 46, 47, 48, 49, 50, 51, 52, 53, 54, 55, 56, 57, 58, 59, 60, 61, 62, 63, 64, 65, 66, 67, 68, 69, 70, 71, 72, 73, 74, 75, 76, 77, 78, 79, 80, 81, 82, 83, 84, 85, 86, 87, 88, 89, 90, 91, 92, 93, 94, 95, 96, 97, 98, 99, 100, 101, 102, 103, 104, 105, 106, 107, 108, 109, 110] (by decide +kernel) (by decide +kernel)
set_option maxRecDepth 20000 in
theorem gX5_init_X5_weight : GoodIn wsX5_init (va_wsS RX5 29 yX5_weight wsX5_weight) := goodIn_app (goodIn_of _ (by decide +kernel)) ggX5_init_X5_weight
theorem dX5_init_0 : decode cX5_init 0 = .ok (.aload_n 0, 1) := by decide +kernel
theorem dX5_init_1 : decode cX5_init 1 = .ok (.invokespecial 1, 3) := by decide +kernel
theorem dX5_init_4 : decode cX5_init 4 = .ok (.aload_n 0, 1) := by decide +kernel
theorem dX5_init_5 : decode cX5_init 5 = .ok (.new 7, 3) := by decide +kernel
theorem dX5_init_8 : decode cX5_init 8 = .ok (.dup, 1) := by decide +kernel
theorem dX5_init_9 : decode cX5_init 9 = .ok (.invokespecial 9, 3) := by decide +kernel
theorem dX5_init_12 : decode cX5_init 12 = .ok (.putfield 10, 3) := by decide +kernel
theorem dX5_init_15 : decode cX5_init 15 = .ok (.aload_n 0, 1) := by decide +kernel
theorem dX5_init_16 : decode cX5_init 16 = .ok (.bipush 32, 2) := by decide +kernel
theorem dX5_init_18 : decode cX5_init 18 = .ok (.newarray .int, 2) := by decide +kernel
theorem dX5_init_20 : decode cX5_init 20 = .ok (.putfield 18, 3) := by decide +kernel
theorem dX5_init_23 : decode cX5_init 23 = .ok (.aload_n 0, 1) := by decide +kernel
theorem dX5_init_24 : decode cX5_init 24 = .ok (.bipush 32, 2) := by decide +kernel
theorem dX5_init_26 : decode cX5_init 26 = .ok (.newarray .int, 2) := by decide +kernel
theorem dX5_init_28 : decode cX5_init 28 = .ok (.putfield 22, 3) := by decide +kernel
theorem dX5_init_31 : decode cX5_init 31 = .ok (.iconst 1, 1) := by decide +kernel
theorem dX5_init_32 : decode cX5_init 32 = .ok (.istore_n 1, 1) := by decide +kernel
theorem dX5_init_33 : decode cX5_init 33 = .ok (.iload_n 1, 1) := by decide +kernel
theorem dX5_init_34 : decode cX5_init 34 = .ok (.bipush 26, 2) := by decide +kernel
theorem dX5_init_36 : decode cX5_init 36 = .ok (.if_icmp .gt 29, 3) := by decide +kernel
theorem dX5_init_39 : decode cX5_init 39 = .ok (.aload_n 0, 1) := by decide +kernel
theorem dX5_init_40 : decode cX5_init 40 = .ok (.getfield 18, 3) := by decide +kernel
theorem dX5_init_43 : decode cX5_init 43 = .ok (.iload_n 1, 1) := by decide +kernel
theorem dX5_init_44 : decode cX5_init 44 = .ok (.iload_n 1, 1) := by decide +kernel
theorem dX5_init_45 : decode cX5_init 45 = .ok (.invokestatic 25, 3) := by decide +kernel
theorem dX5_init_48 : decode cX5_init 48 = .ok (.iastore, 1) := by decide +kernel
theorem dX5_init_49 : decode cX5_init 49 = .ok (.aload_n 0, 1) := by decide +kernel
theorem dX5_init_50 : decode cX5_init 50 = .ok (.getfield 22, 3) := by decide +kernel
theorem dX5_init_53 : decode cX5_init 53 = .ok (.iload_n 1, 1) := by decide +kernel
theorem dX5_init_54 : decode cX5_init 54 = .ok (.iload_n 1, 1) := by decide +kernel
theorem dX5_init_55 : decode cX5_init 55 = .ok (.invokestatic 29, 3) := by decide +kernel
theorem dX5_init_58 : decode cX5_init 58 = .ok (.iastore, 1) := by decide +kernel
theorem dX5_init_59 : decode cX5_init 59 = .ok (.iinc 1 1, 3) := by decide +kernel
theorem dX5_init_62 : decode cX5_init 62 = .ok (.goto (-29), 3) := by decide +kernel
theorem dX5_init_65 : decode cX5_init 65 = .ok (.return_, 1) := by decide +kernel
theorem dX5_basePrice_0 : decode cX5_basePrice 0 = .ok (.aload_n 0, 1) := by decide +kernel
theorem dX5_basePrice_1 : decode cX5_basePrice 1 = .ok (.getfield 18, 3) := by decide +kernel
theorem dX5_basePrice_4 : decode cX5_basePrice 4 = .ok (.iload_n 1, 1) := by decide +kernel
theorem dX5_basePrice_5 : decode cX5_basePrice 5 = .ok (.bipush 31, 2) := by decide +kernel
theorem dX5_basePrice_7 : decode cX5_basePrice 7 = .ok (.iand, 1) := by decide +kernel
theorem dX5_basePrice_8 : decode cX5_basePrice 8 = .ok (.iaload, 1) := by decide +kernel
theorem dX5_basePrice_9 : decode cX5_basePrice 9 = .ok (.ireturn, 1) := by decide +kernel
set_option maxRecDepth 20000 in
theorem ggX5_changeBasePrice_X5_basePrice : GoodIn wsX5_changeBasePrice wsX5_basePrice := goodIn_r _ [6, 1, 7, 8, 9] (by decide +kernel) (by decide +kernel)
set_option maxRecDepth 20000 in
theorem gX5_changeBasePrice_X5_basePrice : GoodIn wsX5_changeBasePrice (wsV RX5 32 RX5 yX5_basePrice wsX5_basePrice) := goodIn_app (goodIn_of _ (by decide +kernel)) ggX5_changeBasePrice_X5_basePrice
theorem dX5_changeBasePrice_0 : decode cX5_changeBasePrice 0 = .ok (.aload_n 0, 1) := by decide +kernel
theorem dX5_changeBasePrice_1 : decode cX5_changeBasePrice 1 = .ok (.iload_n 1, 1) := by decide +kernel
theorem dX5_changeBasePrice_2 : decode cX5_changeBasePrice 2 = .ok (.invokevirtual 32, 3) := by decide +kernel
theorem dX5_changeBasePrice_5 : decode cX5_changeBasePrice 5 = .ok (.istore_n 3, 1) := by decide +kernel
theorem dX5_changeBasePrice_6 : decode cX5_changeBasePrice 6 = .ok (.aload_n 0, 1) := by decide +kernel
theorem dX5_changeBasePrice_7 : decode cX5_changeBasePrice 7 = .ok (.getfield 18, 3) := by decide +kernel
theorem dX5_changeBasePrice_10 : decode cX5_changeBasePrice 10 = .ok (.iload_n 1, 1) := by decide +kernel
theorem dX5_changeBasePrice_11 : decode cX5_changeBasePrice 11 = .ok (.bipush 31, 2) := by decide +kernel
theorem dX5_changeBasePrice_13 : decode cX5_changeBasePrice 13 = .ok (.iand, 1) := by decide +kernel
theorem dX5_changeBasePrice_14 : decode cX5_changeBasePrice 14 = .ok (.iload_n 2, 1) := by decide +kernel
theorem dX5_changeBasePrice_15 : decode cX5_changeBasePrice 15 = .ok (.iastore, 1) := by decide +kernel
theorem dX5_changeBasePrice_16 : decode cX5_changeBasePrice 16 = .ok (.iload_n 3, 1) := by decide +kernel
theorem dX5_changeBasePrice_17 : decode cX5_changeBasePrice 17 = .ok (.ireturn, 1) := by decide +kernel
set_option maxRecDepth 20000 in
theorem ggX5_presentPrice_X5_basePrice : GoodIn wsX5_presentPrice wsX5_basePrice := goodIn_r _ [10, 11, 18, 19, 20] (by decide +kernel) (by decide +kernel)
set_option maxRecDepth 20000 in
theorem gX5_presentPrice_X5_basePrice : GoodIn wsX5_presentPrice (wsV RX5 32 RX5 yX5_basePrice wsX5_basePrice) := goodIn_app (goodIn_of _ (by decide +kernel)) ggX5_presentPrice_X5_basePrice
set_option maxRecDepth 20000 in
theorem ggX5_presentPrice_X2_count : GoodIn wsX5_presentPrice wsX2_count := goodIn_r _ [16, 17, 21] (by decide +kernel) (by decide +kernel)
set_option maxRecDepth 20000 in
theorem gX5_presentPrice_X2_count : GoodIn wsX5_presentPrice (wsV RX5 35 RX2 yX2_count wsX2_count) := goodIn_app (goodIn_of _ (by decide +kernel)) ggX5_presentPrice_X2_count
theorem dX5_presentPrice_0 : decode cX5_presentPrice 0 = .ok (.aload_n 0, 1) := by decide +kernel
theorem dX5_presentPrice_1 : decode cX5_presentPrice 1 = .ok (.iload_n 1, 1) := by decide +kernel
theorem dX5_presentPrice_2 : decode cX5_presentPrice 2 = .ok (.invokevirtual 32, 3) := by decide +kernel
theorem dX5_presentPrice_5 : decode cX5_presentPrice 5 = .ok (.istore_n 2, 1) := by decide +kernel
theorem dX5_presentPrice_6 : decode cX5_presentPrice 6 = .ok (.iconst 0, 1) := by decide +kernel
theorem dX5_presentPrice_7 : decode cX5_presentPrice 7 = .ok (.bipush 10, 2) := by decide +kernel
theorem dX5_presentPrice_9 : decode cX5_presentPrice 9 = .ok (.aload_n 0, 1) := by decide +kernel
theorem dX5_presentPrice_10 : decode cX5_presentPrice 10 = .ok (.getfield 10, 3) := by decide +kernel
theorem dX5_presentPrice_13 : decode cX5_presentPrice 13 = .ok (.iload_n 1, 1) := by decide +kernel
theorem dX5_presentPrice_14 : decode cX5_presentPrice 14 = .ok (.invokevirtual 35, 3) := by decide +kernel
theorem dX5_presentPrice_17 : decode cX5_presentPrice 17 = .ok (.isub, 1) := by decide +kernel
theorem dX5_presentPrice_18 : decode cX5_presentPrice 18 = .ok (.invokestatic 38, 3) := by decide +kernel
theorem dX5_presentPrice_21 : decode cX5_presentPrice 21 = .ok (.istore_n 3, 1) := by decide +kernel
theorem dX5_presentPrice_22 : decode cX5_presentPrice 22 = .ok (.iload_n 2, 1) := by decide +kernel
theorem dX5_presentPrice_23 : decode cX5_presentPrice 23 = .ok (.iload_n 2, 1) := by decide +kernel
theorem dX5_presentPrice_24 : decode cX5_presentPrice 24 = .ok (.iload_n 3, 1) := by decide +kernel
theorem dX5_presentPrice_25 : decode cX5_presentPrice 25 = .ok (.imul, 1) := by decide +kernel
theorem dX5_presentPrice_26 : decode cX5_presentPrice 26 = .ok (.bipush 10, 2) := by decide +kernel
theorem dX5_presentPrice_28 : decode cX5_presentPrice 28 = .ok (.idiv, 1) := by decide +kernel
theorem dX5_presentPrice_29 : decode cX5_presentPrice 29 = .ok (.iadd, 1) := by decide +kernel
theorem dX5_presentPrice_30 : decode cX5_presentPrice 30 = .ok (.ireturn, 1) := by decide +kernel
set_option maxRecDepth 20000 in
theorem ggX5_ounces_X7_lengthOf : GoodIn wsX5_ounces wsX7_lengthOf := goodIn_r _ [5] (by decide +kernel) (by decide +kernel)
set_option maxRecDepth 20000 in
theorem gX5_ounces_X7_lengthOf : GoodIn wsX5_ounces (va_wsS RX5 44 yX7_lengthOf wsX7_lengthOf) := goodIn_app (goodIn_of _ (by decide +kernel)) ggX5_ounces_X7_lengthOf
set_option maxRecDepth 20000 in
theorem ggX5_ounces_X7_letter : GoodIn wsX5_ounces wsX7_letter := goodIn_r _ [8] (by decide +kernel) (by decide +kernel)
set_option maxRecDepth 20000 in
theorem gX5_ounces_X7_letter : GoodIn wsX5_ounces (va_wsS RX5 48 yX7_letter wsX7_letter) := goodIn_app (goodIn_of _ (by decide +kernel)) ggX5_ounces_X7_letter
theorem dX5_ounces_0 : decode cX5_ounces 0 = .ok (.lload_n 1, 1) := by decide +kernel
theorem dX5_ounces_1 : decode cX5_ounces 1 = .ok (.invokestatic 44, 3) := by decide +kernel
theorem dX5_ounces_4 : decode cX5_ounces 4 = .ok (.istore_n 3, 1) := by decide +kernel
theorem dX5_ounces_5 : decode cX5_ounces 5 = .ok (.iconst 0, 1) := by decide +kernel
theorem dX5_ounces_6 : decode cX5_ounces 6 = .ok (.istore 4, 2) := by decide +kernel
theorem dX5_ounces_8 : decode cX5_ounces 8 = .ok (.iconst 0, 1) := by decide +kernel
theorem dX5_ounces_9 : decode cX5_ounces 9 = .ok (.istore 5, 2) := by decide +kernel
theorem dX5_ounces_11 : decode cX5_ounces 11 = .ok (.iload 5, 2) := by decide +kernel
theorem dX5_ounces_13 : decode cX5_ounces 13 = .ok (.iload_n 3, 1) := by decide +kernel
theorem dX5_ounces_14 : decode cX5_ounces 14 = .ok (.if_icmp .ge 25, 3) := by decide +kernel
theorem dX5_ounces_17 : decode cX5_ounces 17 = .ok (.iload 4, 2) := by decide +kernel
theorem dX5_ounces_19 : decode cX5_ounces 19 = .ok (.aload_n 0, 1) := by decide +kernel
theorem dX5_ounces_20 : decode cX5_ounces 20 = .ok (.getfield 22, 3) := by decide +kernel
theorem dX5_ounces_23 : decode cX5_ounces 23 = .ok (.lload_n 1, 1) := by decide +kernel
theorem dX5_ounces_24 : decode cX5_ounces 24 = .ok (.iload 5, 2) := by decide +kernel
theorem dX5_ounces_26 : decode cX5_ounces 26 = .ok (.invokestatic 48, 3) := by decide +kernel
theorem dX5_ounces_29 : decode cX5_ounces 29 = .ok (.iaload, 1) := by decide +kernel
theorem dX5_ounces_30 : decode cX5_ounces 30 = .ok (.iadd, 1) := by decide +kernel
theorem dX5_ounces_31 : decode cX5_ounces 31 = .ok (.istore 4, 2) := by decide +kernel
theorem dX5_ounces_33 : decode cX5_ounces 33 = .ok (.iinc 5 1, 3) := by decide +kernel
theorem dX5_ounces_36 : decode cX5_ounces 36 = .ok (.goto (-25), 3) := by decide +kernel
theorem dX5_ounces_39 : decode cX5_ounces 39 = .ok (.iload 4, 2) := by decide +kernel
theorem dX5_ounces_41 : decode cX5_ounces 41 = .ok (.ireturn, 1) := by decide +kernel
set_option maxRecDepth 20000 in
theorem ggX5_weigh_X7_lengthOf : GoodIn wsX5_weigh wsX7_lengthOf := goodIn_r _ [6] (by decide +kernel) (by decide +kernel)
set_option maxRecDepth 20000 in
theorem gX5_weigh_X7_lengthOf : GoodIn wsX5_weigh (va_wsS RX5 44 yX7_lengthOf wsX7_lengthOf) := goodIn_app (goodIn_of _ (by decide +kernel)) ggX5_weigh_X7_lengthOf
set_option maxRecDepth 20000 in
theorem ggX5_weigh_X7_letter : GoodIn wsX5_weigh wsX7_letter := goodIn_r _ [9] (by decide +kernel) (by decide +kernel)
set_option maxRecDepth 20000 in
theorem gX5_weigh_X7_letter : GoodIn wsX5_weigh (va_wsS RX5 48 yX7_letter wsX7_letter) := goodIn_app (goodIn_of _ (by decide +kernel)) ggX5_weigh_X7_letter
set_option maxRecDepth 20000 in
theorem ggX5_weigh_X5_presentPrice : GoodIn wsX5_weigh wsX5_presentPrice := goodIn_r _ [14, 2, 15, 16, 17, 18, 19, 20, 21, 13, 22, 23, 24, 25, 26, 27, 28, 29, 40, 41, 42, 43] (by decide +kernel) (by decide +kernel)
set_option maxRecDepth 20000 in
theorem gX5_weigh_X5_presentPrice : GoodIn wsX5_weigh (wsV RX5 52 RX5 yX5_presentPrice wsX5_presentPrice) := goodIn_app (goodIn_of _ (by decide +kernel)) ggX5_weigh_X5_presentPrice
set_option maxRecDepth 20000 in
theorem ggX5_weigh_X2_takeOne : GoodIn wsX5_weigh wsX2_takeOne := goodIn_r _ [33, 29, 43] (by decide +kernel) (by decide +kernel)
set_option maxRecDepth 20000 in
theorem gX5_weigh_X2_takeOne : GoodIn wsX5_weigh (wsV RX5 55 RX2 yX2_takeOne wsX2_takeOne) := goodIn_app (goodIn_of _ (by decide +kernel)) ggX5_weigh_X2_takeOne
set_option maxRecDepth 20000 in
theorem ggX5_weigh_X2_put : GoodIn wsX5_weigh wsX2_put := goodIn_r _ [37, 29, 38, 4, 5, 6, 39, 8, 9, 43] (by decide +kernel) (by decide +kernel)
set_option maxRecDepth 20000 in
theorem gX5_weigh_X2_put : GoodIn wsX5_weigh (wsV RX5 59 RX2 yX2_put wsX2_put) := goodIn_app (goodIn_of _ (by decide +kernel)) ggX5_weigh_X2_put
theorem dX5_weigh_0 : decode cX5_weigh 0 = .ok (.iconst 0, 1) := by decide +kernel
theorem dX5_weigh_1 : decode cX5_weigh 1 = .ok (.istore_n 3, 1) := by decide +kernel
theorem dX5_weigh_2 : decode cX5_weigh 2 = .ok (.lload_n 1, 1) := by decide +kernel
theorem dX5_weigh_3 : decode cX5_weigh 3 = .ok (.invokestatic 44, 3) := by decide +kernel
theorem dX5_weigh_6 : decode cX5_weigh 6 = .ok (.iconst 1, 1) := by decide +kernel
theorem dX5_weigh_7 : decode cX5_weigh 7 = .ok (.isub, 1) := by decide +kernel
theorem dX5_weigh_8 : decode cX5_weigh 8 = .ok (.istore 4, 2) := by decide +kernel
theorem dX5_weigh_10 : decode cX5_weigh 10 = .ok (.iload 4, 2) := by decide +kernel
theorem dX5_weigh_12 : decode cX5_weigh 12 = .ok (.ifCond .lt 43, 3) := by decide +kernel
theorem dX5_weigh_15 : decode cX5_weigh 15 = .ok (.lload_n 1, 1) := by decide +kernel
theorem dX5_weigh_16 : decode cX5_weigh 16 = .ok (.iload 4, 2) := by decide +kernel
theorem dX5_weigh_18 : decode cX5_weigh 18 = .ok (.invokestatic 48, 3) := by decide +kernel
theorem dX5_weigh_21 : decode cX5_weigh 21 = .ok (.istore 5, 2) := by decide +kernel
theorem dX5_weigh_23 : decode cX5_weigh 23 = .ok (.iload_n 3, 1) := by decide +kernel
theorem dX5_weigh_24 : decode cX5_weigh 24 = .ok (.aload_n 0, 1) := by decide +kernel
theorem dX5_weigh_25 : decode cX5_weigh 25 = .ok (.iload 5, 2) := by decide +kernel
theorem dX5_weigh_27 : decode cX5_weigh 27 = .ok (.invokevirtual 52, 3) := by decide +kernel
theorem dX5_weigh_30 : decode cX5_weigh 30 = .ok (.aload_n 0, 1) := by decide +kernel
theorem dX5_weigh_31 : decode cX5_weigh 31 = .ok (.getfield 22, 3) := by decide +kernel
theorem dX5_weigh_34 : decode cX5_weigh 34 = .ok (.iload 5, 2) := by decide +kernel
theorem dX5_weigh_36 : decode cX5_weigh 36 = .ok (.iaload, 1) := by decide +kernel
theorem dX5_weigh_37 : decode cX5_weigh 37 = .ok (.imul, 1) := by decide +kernel
theorem dX5_weigh_38 : decode cX5_weigh 38 = .ok (.iadd, 1) := by decide +kernel
theorem dX5_weigh_39 : decode cX5_weigh 39 = .ok (.istore_n 3, 1) := by decide +kernel
theorem dX5_weigh_40 : decode cX5_weigh 40 = .ok (.aload_n 0, 1) := by decide +kernel
theorem dX5_weigh_41 : decode cX5_weigh 41 = .ok (.getfield 10, 3) := by decide +kernel
theorem dX5_weigh_44 : decode cX5_weigh 44 = .ok (.iload 5, 2) := by decide +kernel
theorem dX5_weigh_46 : decode cX5_weigh 46 = .ok (.invokevirtual 55, 3) := by decide +kernel
theorem dX5_weigh_49 : decode cX5_weigh 49 = .ok (.iinc 4 (-1), 3) := by decide +kernel
theorem dX5_weigh_52 : decode cX5_weigh 52 = .ok (.goto (-42), 3) := by decide +kernel
theorem dX5_weigh_55 : decode cX5_weigh 55 = .ok (.aload_n 0, 1) := by decide +kernel
theorem dX5_weigh_56 : decode cX5_weigh 56 = .ok (.getfield 10, 3) := by decide +kernel
theorem dX5_weigh_59 : decode cX5_weigh 59 = .ok (.lload_n 1, 1) := by decide +kernel
theorem dX5_weigh_60 : decode cX5_weigh 60 = .ok (.iconst 1, 1) := by decide +kernel
theorem dX5_weigh_61 : decode cX5_weigh 61 = .ok (.invokevirtual 59, 3) := by decide +kernel
theorem dX5_weigh_64 : decode cX5_weigh 64 = .ok (.iload_n 3, 1) := by decide +kernel
theorem dX5_weigh_65 : decode cX5_weigh 65 = .ok (.bipush 16, 2) := by decide +kernel
theorem dX5_weigh_67 : decode cX5_weigh 67 = .ok (.iadd, 1) := by decide +kernel
theorem dX5_weigh_68 : decode cX5_weigh 68 = .ok (.iconst 1, 1) := by decide +kernel
theorem dX5_weigh_69 : decode cX5_weigh 69 = .ok (.isub, 1) := by decide +kernel
theorem dX5_weigh_70 : decode cX5_weigh 70 = .ok (.bipush 16, 2) := by decide +kernel
theorem dX5_weigh_72 : decode cX5_weigh 72 = .ok (.idiv, 1) := by decide +kernel
theorem dX5_weigh_73 : decode cX5_weigh 73 = .ok (.ireturn, 1) := by decide +kernel
set_option maxRecDepth 20000 in
theorem ggX5_canSell_X2_holds : GoodIn wsX5_canSell wsX2_holds := goodIn_r _ [6, 7, 8, 9, 5, 10, 11, 12, 13, 14, 15, 16, 17, 18, 19, 20, 21, 22, 56] (by decide +kernel) (by decide +kernel)
set_option maxRecDepth 20000 in
theorem gX5_canSell_X2_holds : GoodIn wsX5_canSell (wsV RX5 63 RX2 yX2_holds wsX2_holds) := goodIn_app (goodIn_of _ (by decide +kernel)) ggX5_canSell_X2_holds
set_option maxRecDepth 20000 in
theorem ggX5_canSell_X5_weigh : GoodIn wsX5_canSell wsX5_weigh := goodIn_r _ [27, 28, 1, 29, 13, 14, 15, 30, 17, 18, 31, 32, 33, 26, 34, 35, 36, 37, 38, 39, 40, 41, 42, 43, 44, 45, 46, 5, 47, 11, 48, 49, 50, 51, 52, 20, 21, 22, 12, 16, 53, 54, 55, 56] (by decide +kernel) (by decide +kernel)
set_option maxRecDepth 20000 in
theorem gX5_canSell_X5_weigh : GoodIn wsX5_canSell (wsV RX5 67 RX5 yX5_weigh wsX5_weigh) := goodIn_app (goodIn_of _ (by decide +kernel)) ggX5_canSell_X5_weigh
theorem dX5_canSell_0 : decode cX5_canSell 0 = .ok (.aload_n 0, 1) := by decide +kernel
theorem dX5_canSell_1 : decode cX5_canSell 1 = .ok (.getfield 10, 3) := by decide +kernel
theorem dX5_canSell_4 : decode cX5_canSell 4 = .ok (.lload_n 1, 1) := by decide +kernel
theorem dX5_canSell_5 : decode cX5_canSell 5 = .ok (.invokevirtual 63, 3) := by decide +kernel
theorem dX5_canSell_8 : decode cX5_canSell 8 = .ok (.ifCond .eq 16, 3) := by decide +kernel
theorem dX5_canSell_11 : decode cX5_canSell 11 = .ok (.aload_n 0, 1) := by decide +kernel
theorem dX5_canSell_12 : decode cX5_canSell 12 = .ok (.lload_n 1, 1) := by decide +kernel
theorem dX5_canSell_13 : decode cX5_canSell 13 = .ok (.invokevirtual 67, 3) := by decide +kernel
theorem dX5_canSell_16 : decode cX5_canSell 16 = .ok (.iload_n 3, 1) := by decide +kernel
theorem dX5_canSell_17 : decode cX5_canSell 17 = .ok (.if_icmp .gt 7, 3) := by decide +kernel
theorem dX5_canSell_20 : decode cX5_canSell 20 = .ok (.iconst 1, 1) := by decide +kernel
theorem dX5_canSell_21 : decode cX5_canSell 21 = .ok (.goto 4, 3) := by decide +kernel
theorem dX5_canSell_24 : decode cX5_canSell 24 = .ok (.iconst 0, 1) := by decide +kernel
theorem dX5_canSell_25 : decode cX5_canSell 25 = .ok (.ireturn, 1) := by decide +kernel
set_option maxRecDepth 20000 in
theorem ggX5_hasRoomFor_X2_count : GoodIn wsX5_hasRoomFor wsX2_count := goodIn_r _ [6, 7, 11] (by decide +kernel) (by decide +kernel)
set_option maxRecDepth 20000 in
theorem gX5_hasRoomFor_X2_count : GoodIn wsX5_hasRoomFor (wsV RX5 35 RX2 yX2_count wsX2_count) := goodIn_app (goodIn_of _ (by decide +kernel)) ggX5_hasRoomFor_X2_count
theorem dX5_hasRoomFor_0 : decode cX5_hasRoomFor 0 = .ok (.iconst 1, 1) := by decide +kernel
theorem dX5_hasRoomFor_1 : decode cX5_hasRoomFor 1 = .ok (.istore_n 2, 1) := by decide +kernel
theorem dX5_hasRoomFor_2 : decode cX5_hasRoomFor 2 = .ok (.iload_n 2, 1) := by decide +kernel
theorem dX5_hasRoomFor_3 : decode cX5_hasRoomFor 3 = .ok (.bipush 26, 2) := by decide +kernel
theorem dX5_hasRoomFor_5 : decode cX5_hasRoomFor 5 = .ok (.if_icmp .gt 31, 3) := by decide +kernel
theorem dX5_hasRoomFor_8 : decode cX5_hasRoomFor 8 = .ok (.aload_n 0, 1) := by decide +kernel
theorem dX5_hasRoomFor_9 : decode cX5_hasRoomFor 9 = .ok (.getfield 10, 3) := by decide +kernel
theorem dX5_hasRoomFor_12 : decode cX5_hasRoomFor 12 = .ok (.iload_n 2, 1) := by decide +kernel
theorem dX5_hasRoomFor_13 : decode cX5_hasRoomFor 13 = .ok (.invokevirtual 35, 3) := by decide +kernel
theorem dX5_hasRoomFor_16 : decode cX5_hasRoomFor 16 = .ok (.aload_n 1, 1) := by decide +kernel
theorem dX5_hasRoomFor_17 : decode cX5_hasRoomFor 17 = .ok (.iload_n 2, 1) := by decide +kernel
theorem dX5_hasRoomFor_18 : decode cX5_hasRoomFor 18 = .ok (.invokevirtual 35, 3) := by decide +kernel
theorem dX5_hasRoomFor_21 : decode cX5_hasRoomFor 21 = .ok (.iadd, 1) := by decide +kernel
theorem dX5_hasRoomFor_22 : decode cX5_hasRoomFor 22 = .ok (.sipush 999, 3) := by decide +kernel
theorem dX5_hasRoomFor_25 : decode cX5_hasRoomFor 25 = .ok (.if_icmp .le 5, 3) := by decide +kernel
theorem dX5_hasRoomFor_28 : decode cX5_hasRoomFor 28 = .ok (.iconst 0, 1) := by decide +kernel
theorem dX5_hasRoomFor_29 : decode cX5_hasRoomFor 29 = .ok (.ireturn, 1) := by decide +kernel
theorem dX5_hasRoomFor_30 : decode cX5_hasRoomFor 30 = .ok (.iinc 2 1, 3) := by decide +kernel
theorem dX5_hasRoomFor_33 : decode cX5_hasRoomFor 33 = .ok (.goto (-31), 3) := by decide +kernel
theorem dX5_hasRoomFor_36 : decode cX5_hasRoomFor 36 = .ok (.iconst 1, 1) := by decide +kernel
theorem dX5_hasRoomFor_37 : decode cX5_hasRoomFor 37 = .ok (.ireturn, 1) := by decide +kernel
set_option maxRecDepth 20000 in
theorem ggX5_firstPrice_X5_isAmong : GoodIn wsX5_firstPrice wsX5_isAmong := goodIn_r _ [4, 5, 6, 7, 8, 9, 10, 11, 12, 13, 14, 15, 16, 17, 18, 19, 20, 21, 22, 23, 24, 25, 26, 27, 28, 29, 30, 31, 32, 33, 34, 35, 36, 37, 38, 39, 40, 41, 42, 43, 44, 45, 46, 47, 48, 49, 50, 51, 52, 53, 54, 55, 56, 57, 58, 59, 60, 61, 62, 63, 64, 65, 66, 67, 68, 69, 70, 71, 72, 73, 74, 75, 76, 77, 78, 79, 80, 81, 82, 83, 84, 85, 86, 87, 88, 89, 90, 91, 92, 93] (by decide +kernel) (by decide +kernel)
set_option maxRecDepth 20000 in
theorem gX5_firstPrice_X5_isAmong : GoodIn wsX5_firstPrice (va_wsS RX5 72 yX5_isAmong wsX5_isAmong) := goodIn_app (goodIn_of _ (by decide +kernel)) ggX5_firstPrice_X5_isAmong
theorem dX5_firstPrice_0 : decode cX5_firstPrice 0 = .ok (.ldc 70, 2) := by decide +kernel
theorem dX5_firstPrice_2 : decode cX5_firstPrice 2 = .ok (.iload_n 0, 1) := by decide +kernel
theorem dX5_firstPrice_3 : decode cX5_firstPrice 3 = .ok (.invokestatic 72, 3) := by decide +kernel
theorem dX5_firstPrice_6 : decode cX5_firstPrice 6 = .ok (.ifCond .eq 6, 3) := by decide +kernel
theorem dX5_firstPrice_9 : decode cX5_firstPrice 9 = .ok (.bipush 40, 2) := by decide +kernel
theorem dX5_firstPrice_11 : decode cX5_firstPrice 11 = .ok (.ireturn, 1) := by decide +kernel
theorem dX5_firstPrice_12 : decode cX5_firstPrice 12 = .ok (.ldc 76, 2) := by decide +kernel
theorem dX5_firstPrice_14 : decode cX5_firstPrice 14 = .ok (.iload_n 0, 1) := by decide +kernel
theorem dX5_firstPrice_15 : decode cX5_firstPrice 15 = .ok (.invokestatic 72, 3) := by decide +kernel
theorem dX5_firstPrice_18 : decode cX5_firstPrice 18 = .ok (.ifCond .eq 8, 3) := by decide +kernel
theorem dX5_firstPrice_21 : decode cX5_firstPrice 21 = .ok (.bipush 90, 2) := by decide +kernel
theorem dX5_firstPrice_23 : decode cX5_firstPrice 23 = .ok (.goto 5, 3) := by decide +kernel
theorem dX5_firstPrice_26 : decode cX5_firstPrice 26 = .ok (.bipush 60, 2) := by decide +kernel
theorem dX5_firstPrice_28 : decode cX5_firstPrice 28 = .ok (.ireturn, 1) := by decide +kernel
set_option maxRecDepth 20000 in
theorem ggX5_weight_X5_isAmong : GoodIn wsX5_weight wsX5_isAmong := goodIn_r _ [4, 5, 6, 7, 8, 9, 10, 11, 12, 13, 14, 15, 16, 17, 18, 19, 20, 21, 22, 23, 24, 25, 26, 27, 28, 29, 30, 31, 32, 33, 34, 35, 36, 37, 38, 39, 40, 41, 42, 43, 44, 45, 46, 47, 48, 49, 50, 51, 52, 53, 54, 55, 56, 57, 58, 59, 60, 61, 62, 63, 64, 65, 66, 67, 68, 69, 70, 71, 72, 73, 74, 75, 76, 77, 78, 79, 80, 81, 82, 83, 84, 85, 86, 87, 88, 89, 90, 91, 92, 93] (by decide +kernel) (by decide +kernel)
set_option maxRecDepth 20000 in
theorem gX5_weight_X5_isAmong : GoodIn wsX5_weight (va_wsS RX5 72 yX5_isAmong wsX5_isAmong) := goodIn_app (goodIn_of _ (by decide +kernel)) ggX5_weight_X5_isAmong
theorem dX5_weight_0 : decode cX5_weight 0 = .ok (.ldc 70, 2) := by decide +kernel
theorem dX5_weight_2 : decode cX5_weight 2 = .ok (.iload_n 0, 1) := by decide +kernel
theorem dX5_weight_3 : decode cX5_weight 3 = .ok (.invokestatic 72, 3) := by decide +kernel
theorem dX5_weight_6 : decode cX5_weight 6 = .ok (.ifCond .eq 5, 3) := by decide +kernel
theorem dX5_weight_9 : decode cX5_weight 9 = .ok (.iconst 2, 1) := by decide +kernel
theorem dX5_weight_10 : decode cX5_weight 10 = .ok (.ireturn, 1) := by decide +kernel
theorem dX5_weight_11 : decode cX5_weight 11 = .ok (.ldc 78, 2) := by decide +kernel
theorem dX5_weight_13 : decode cX5_weight 13 = .ok (.iload_n 0, 1) := by decide +kernel
theorem dX5_weight_14 : decode cX5_weight 14 = .ok (.invokestatic 72, 3) := by decide +kernel
theorem dX5_weight_17 : decode cX5_weight 17 = .ok (.ifCond .eq 7, 3) := by decide +kernel
theorem dX5_weight_20 : decode cX5_weight 20 = .ok (.iconst 5, 1) := by decide +kernel
theorem dX5_weight_21 : decode cX5_weight 21 = .ok (.goto 4, 3) := by decide +kernel
theorem dX5_weight_24 : decode cX5_weight 24 = .ok (.iconst 3, 1) := by decide +kernel
theorem dX5_weight_25 : decode cX5_weight 25 = .ok (.ireturn, 1) := by decide +kernel
set_option maxRecDepth 20000 in
theorem ggX5_isAmong_J0_indexOf_0f7a4 : GoodIn wsX5_isAmong wsJ0_indexOf_0f7a4 := goodIn_r _ [5, 6, 7, 8, 4, 9, 10, 11, 12, 13, 14, 15, 16, 17, 18, 19, 20, 21, 22, 23, 24, 25, 26, 27, 28, 29, 30, 31, 32, 33, 34, 35, 36, 37, 38, 39, 40, 41, 42, 43, 44, 45, 46, 47, 48, 49, 50, 51, 52, 53, 54, 55, 56, 57, 58, 59, 60, 61, 62, 63, 64, 65, 66, 67, 68, 69, 70, 71, 72, 73, 74, 75, 76, 77, 78, 79, 80, 81, 82, 83, 84, 85, 86, 87, 88, 89] (by decide +kernel) (by decide +kernel)
set_option maxRecDepth 20000 in
theorem gX5_isAmong_J0_indexOf_0f7a4 : GoodIn wsX5_isAmong (wsV RX5 80 RJ0 yJ0_indexOf_0f7a4 wsJ0_indexOf_0f7a4) := goodIn_app (goodIn_of _ (by decide +kernel)) ggX5_isAmong_J0_indexOf_0f7a4
theorem dX5_isAmong_0 : decode cX5_isAmong 0 = .ok (.aload_n 0, 1) := by decide +kernel
theorem dX5_isAmong_1 : decode cX5_isAmong 1 = .ok (.bipush 96, 2) := by decide +kernel
theorem dX5_isAmong_3 : decode cX5_isAmong 3 = .ok (.iload_n 1, 1) := by decide +kernel
theorem dX5_isAmong_4 : decode cX5_isAmong 4 = .ok (.iadd, 1) := by decide +kernel
theorem dX5_isAmong_5 : decode cX5_isAmong 5 = .ok (.i2c, 1) := by decide +kernel
theorem dX5_isAmong_6 : decode cX5_isAmong 6 = .ok (.invokevirtual 80, 3) := by decide +kernel
theorem dX5_isAmong_9 : decode cX5_isAmong 9 = .ok (.ifCond .lt 7, 3) := by decide +kernel
theorem dX5_isAmong_12 : decode cX5_isAmong 12 = .ok (.iconst 1, 1) := by decide +kernel
theorem dX5_isAmong_13 : decode cX5_isAmong 13 = .ok (.goto 4, 3) := by decide +kernel
theorem dX5_isAmong_16 : decode cX5_isAmong 16 = .ok (.iconst 0, 1) := by decide +kernel
theorem dX5_isAmong_17 : decode cX5_isAmong 17 = .ok (.ireturn, 1) := by decide +kernel
theorem dX6_init_0 : decode cX6_init 0 = .ok (.aload_n 0, 1) := by decide +kernel
theorem dX6_init_1 : decode cX6_init 1 = .ok (.invokespecial 1, 3) := by decide +kernel
theorem dX6_init_4 : decode cX6_init 4 = .ok (.aload_n 0, 1) := by decide +kernel
theorem dX6_init_5 : decode cX6_init 5 = .ok (.bipush 60, 2) := by decide +kernel
theorem dX6_init_7 : decode cX6_init 7 = .ok (.newarray .long, 2) := by decide +kernel
theorem dX6_init_9 : decode cX6_init 9 = .ok (.putfield 9, 3) := by decide +kernel
theorem dX6_init_12 : decode cX6_init 12 = .ok (.return_, 1) := by decide +kernel
theorem dX6_size_0 : decode cX6_size 0 = .ok (.aload_n 0, 1) := by decide +kernel
theorem dX6_size_1 : decode cX6_size 1 = .ok (.getfield 13, 3) := by decide +kernel
theorem dX6_size_4 : decode cX6_size 4 = .ok (.ireturn, 1) := by decide +kernel
theorem dX6_isFull_0 : decode cX6_isFull 0 = .ok (.aload_n 0, 1) := by decide +kernel
theorem dX6_isFull_1 : decode cX6_isFull 1 = .ok (.getfield 13, 3) := by decide +kernel
theorem dX6_isFull_4 : decode cX6_isFull 4 = .ok (.bipush 60, 2) := by decide +kernel
theorem dX6_isFull_6 : decode cX6_isFull 6 = .ok (.if_icmp .lt 7, 3) := by decide +kernel
theorem dX6_isFull_9 : decode cX6_isFull 9 = .ok (.iconst 1, 1) := by decide +kernel
theorem dX6_isFull_10 : decode cX6_isFull 10 = .ok (.goto 4, 3) := by decide +kernel
theorem dX6_isFull_13 : decode cX6_isFull 13 = .ok (.iconst 0, 1) := by decide +kernel
theorem dX6_isFull_14 : decode cX6_isFull 14 = .ok (.ireturn, 1) := by decide +kernel
theorem dX6_word_0 : decode cX6_word 0 = .ok (.iload_n 1, 1) := by decide +kernel
theorem dX6_word_1 : decode cX6_word 1 = .ok (.ifCond .lt 20, 3) := by decide +kernel
theorem dX6_word_4 : decode cX6_word 4 = .ok (.iload_n 1, 1) := by decide +kernel
theorem dX6_word_5 : decode cX6_word 5 = .ok (.aload_n 0, 1) := by decide +kernel
theorem dX6_word_6 : decode cX6_word 6 = .ok (.getfield 13, 3) := by decide +kernel
theorem dX6_word_9 : decode cX6_word 9 = .ok (.if_icmp .ge 12, 3) := by decide +kernel
theorem dX6_word_12 : decode cX6_word 12 = .ok (.aload_n 0, 1) := by decide +kernel
theorem dX6_word_13 : decode cX6_word 13 = .ok (.getfield 9, 3) := by decide +kernel
theorem dX6_word_16 : decode cX6_word 16 = .ok (.iload_n 1, 1) := by decide +kernel
theorem dX6_word_17 : decode cX6_word 17 = .ok (.laload, 1) := by decide +kernel
theorem dX6_word_18 : decode cX6_word 18 = .ok (.goto 4, 3) := by decide +kernel
theorem dX6_word_21 : decode cX6_word 21 = .ok (.lconst 0, 1) := by decide +kernel
theorem dX6_word_22 : decode cX6_word 22 = .ok (.lreturn, 1) := by decide +kernel
theorem dX6_clear_0 : decode cX6_clear 0 = .ok (.aload_n 0, 1) := by decide +kernel
theorem dX6_clear_1 : decode cX6_clear 1 = .ok (.iconst 0, 1) := by decide +kernel
theorem dX6_clear_2 : decode cX6_clear 2 = .ok (.putfield 13, 3) := by decide +kernel
theorem dX6_clear_5 : decode cX6_clear 5 = .ok (.return_, 1) := by decide +kernel
set_option maxRecDepth 20000 in
theorem ggX6_append_X6_insert : GoodIn wsX6_append wsX6_insert := goodIn_r _ [6, 1, 7, 8, 9] (by decide +kernel) (by decide +kernel)
set_option maxRecDepth 20000 in
theorem gX6_append_X6_insert : GoodIn wsX6_append (wsV RX6 17 RX6 yX6_insert wsX6_insert) := goodIn_app (goodIn_of _ (by decide +kernel)) ggX6_append_X6_insert
theorem dX6_append_0 : decode cX6_append 0 = .ok (.aload_n 0, 1) := by decide +kernel
theorem dX6_append_1 : decode cX6_append 1 = .ok (.aload_n 0, 1) := by decide +kernel
theorem dX6_append_2 : decode cX6_append 2 = .ok (.getfield 13, 3) := by decide +kernel
theorem dX6_append_5 : decode cX6_append 5 = .ok (.lload_n 1, 1) := by decide +kernel
theorem dX6_append_6 : decode cX6_append 6 = .ok (.invokevirtual 17, 3) := by decide +kernel
theorem dX6_append_9 : decode cX6_append 9 = .ok (.return_, 1) := by decide +kernel
theorem dX6_insert_0 : decode cX6_insert 0 = .ok (.aload_n 0, 1) := by decide +kernel
theorem dX6_insert_1 : decode cX6_insert 1 = .ok (.getfield 13, 3) := by decide +kernel
theorem dX6_insert_4 : decode cX6_insert 4 = .ok (.bipush 60, 2) := by decide +kernel
theorem dX6_insert_6 : decode cX6_insert 6 = .ok (.if_icmp .ge 15, 3) := by decide +kernel
theorem dX6_insert_9 : decode cX6_insert 9 = .ok (.iload_n 1, 1) := by decide +kernel
theorem dX6_insert_10 : decode cX6_insert 10 = .ok (.ifCond .lt 11, 3) := by decide +kernel
theorem dX6_insert_13 : decode cX6_insert 13 = .ok (.iload_n 1, 1) := by decide +kernel
theorem dX6_insert_14 : decode cX6_insert 14 = .ok (.aload_n 0, 1) := by decide +kernel
theorem dX6_insert_15 : decode cX6_insert 15 = .ok (.getfield 13, 3) := by decide +kernel
theorem dX6_insert_18 : decode cX6_insert 18 = .ok (.if_icmp .le 4, 3) := by decide +kernel
theorem dX6_insert_21 : decode cX6_insert 21 = .ok (.return_, 1) := by decide +kernel
theorem dX6_insert_22 : decode cX6_insert 22 = .ok (.aload_n 0, 1) := by decide +kernel
theorem dX6_insert_23 : decode cX6_insert 23 = .ok (.getfield 13, 3) := by decide +kernel
theorem dX6_insert_26 : decode cX6_insert 26 = .ok (.istore 4, 2) := by decide +kernel
theorem dX6_insert_28 : decode cX6_insert 28 = .ok (.iload 4, 2) := by decide +kernel
theorem dX6_insert_30 : decode cX6_insert 30 = .ok (.iload_n 1, 1) := by decide +kernel
theorem dX6_insert_31 : decode cX6_insert 31 = .ok (.if_icmp .le 25, 3) := by decide +kernel
theorem dX6_insert_34 : decode cX6_insert 34 = .ok (.aload_n 0, 1) := by decide +kernel
theorem dX6_insert_35 : decode cX6_insert 35 = .ok (.getfield 9, 3) := by decide +kernel
theorem dX6_insert_38 : decode cX6_insert 38 = .ok (.iload 4, 2) := by decide +kernel
theorem dX6_insert_40 : decode cX6_insert 40 = .ok (.aload_n 0, 1) := by decide +kernel
theorem dX6_insert_41 : decode cX6_insert 41 = .ok (.getfield 9, 3) := by decide +kernel
theorem dX6_insert_44 : decode cX6_insert 44 = .ok (.iload 4, 2) := by decide +kernel
theorem dX6_insert_46 : decode cX6_insert 46 = .ok (.iconst 1, 1) := by decide +kernel
theorem dX6_insert_47 : decode cX6_insert 47 = .ok (.isub, 1) := by decide +kernel
theorem dX6_insert_48 : decode cX6_insert 48 = .ok (.laload, 1) := by decide +kernel
theorem dX6_insert_49 : decode cX6_insert 49 = .ok (.lastore, 1) := by decide +kernel
theorem dX6_insert_50 : decode cX6_insert 50 = .ok (.iinc 4 (-1), 3) := by decide +kernel
theorem dX6_insert_53 : decode cX6_insert 53 = .ok (.goto (-25), 3) := by decide +kernel
theorem dX6_insert_56 : decode cX6_insert 56 = .ok (.aload_n 0, 1) := by decide +kernel
theorem dX6_insert_57 : decode cX6_insert 57 = .ok (.getfield 9, 3) := by decide +kernel
theorem dX6_insert_60 : decode cX6_insert 60 = .ok (.iload_n 1, 1) := by decide +kernel
theorem dX6_insert_61 : decode cX6_insert 61 = .ok (.lload_n 2, 1) := by decide +kernel
theorem dX6_insert_62 : decode cX6_insert 62 = .ok (.lastore, 1) := by decide +kernel
theorem dX6_insert_63 : decode cX6_insert 63 = .ok (.aload_n 0, 1) := by decide +kernel
theorem dX6_insert_64 : decode cX6_insert 64 = .ok (.dup, 1) := by decide +kernel
theorem dX6_insert_65 : decode cX6_insert 65 = .ok (.getfield 13, 3) := by decide +kernel
theorem dX6_insert_68 : decode cX6_insert 68 = .ok (.iconst 1, 1) := by decide +kernel
theorem dX6_insert_69 : decode cX6_insert 69 = .ok (.iadd, 1) := by decide +kernel
theorem dX6_insert_70 : decode cX6_insert 70 = .ok (.putfield 13, 3) := by decide +kernel
theorem dX6_insert_73 : decode cX6_insert 73 = .ok (.return_, 1) := by decide +kernel
theorem dX6_delete_0 : decode cX6_delete 0 = .ok (.iload_n 1, 1) := by decide +kernel
theorem dX6_delete_1 : decode cX6_delete 1 = .ok (.ifCond .lt 11, 3) := by decide +kernel
theorem dX6_delete_4 : decode cX6_delete 4 = .ok (.iload_n 1, 1) := by decide +kernel
theorem dX6_delete_5 : decode cX6_delete 5 = .ok (.aload_n 0, 1) := by decide +kernel
theorem dX6_delete_6 : decode cX6_delete 6 = .ok (.getfield 13, 3) := by decide +kernel
theorem dX6_delete_9 : decode cX6_delete 9 = .ok (.if_icmp .lt 4, 3) := by decide +kernel
theorem dX6_delete_12 : decode cX6_delete 12 = .ok (.return_, 1) := by decide +kernel
theorem dX6_delete_13 : decode cX6_delete 13 = .ok (.aload_n 0, 1) := by decide +kernel
theorem dX6_delete_14 : decode cX6_delete 14 = .ok (.dup, 1) := by decide +kernel
theorem dX6_delete_15 : decode cX6_delete 15 = .ok (.getfield 13, 3) := by decide +kernel
theorem dX6_delete_18 : decode cX6_delete 18 = .ok (.iconst 1, 1) := by decide +kernel
theorem dX6_delete_19 : decode cX6_delete 19 = .ok (.isub, 1) := by decide +kernel
theorem dX6_delete_20 : decode cX6_delete 20 = .ok (.putfield 13, 3) := by decide +kernel
theorem dX6_delete_23 : decode cX6_delete 23 = .ok (.iload_n 1, 1) := by decide +kernel
theorem dX6_delete_24 : decode cX6_delete 24 = .ok (.istore_n 2, 1) := by decide +kernel
theorem dX6_delete_25 : decode cX6_delete 25 = .ok (.iload_n 2, 1) := by decide +kernel
theorem dX6_delete_26 : decode cX6_delete 26 = .ok (.aload_n 0, 1) := by decide +kernel
theorem dX6_delete_27 : decode cX6_delete 27 = .ok (.getfield 13, 3) := by decide +kernel
theorem dX6_delete_30 : decode cX6_delete 30 = .ok (.if_icmp .ge 23, 3) := by decide +kernel
theorem dX6_delete_33 : decode cX6_delete 33 = .ok (.aload_n 0, 1) := by decide +kernel
theorem dX6_delete_34 : decode cX6_delete 34 = .ok (.getfield 9, 3) := by decide +kernel
theorem dX6_delete_37 : decode cX6_delete 37 = .ok (.iload_n 2, 1) := by decide +kernel
theorem dX6_delete_38 : decode cX6_delete 38 = .ok (.aload_n 0, 1) := by decide +kernel
theorem dX6_delete_39 : decode cX6_delete 39 = .ok (.getfield 9, 3) := by decide +kernel
theorem dX6_delete_42 : decode cX6_delete 42 = .ok (.iload_n 2, 1) := by decide +kernel
theorem dX6_delete_43 : decode cX6_delete 43 = .ok (.iconst 1, 1) := by decide +kernel
theorem dX6_delete_44 : decode cX6_delete 44 = .ok (.iadd, 1) := by decide +kernel
theorem dX6_delete_45 : decode cX6_delete 45 = .ok (.laload, 1) := by decide +kernel
theorem dX6_delete_46 : decode cX6_delete 46 = .ok (.lastore, 1) := by decide +kernel
theorem dX6_delete_47 : decode cX6_delete 47 = .ok (.iinc 2 1, 3) := by decide +kernel
theorem dX6_delete_50 : decode cX6_delete 50 = .ok (.goto (-25), 3) := by decide +kernel
theorem dX6_delete_53 : decode cX6_delete 53 = .ok (.return_, 1) := by decide +kernel
theorem dX6_copy_0 : decode cX6_copy 0 = .ok (.aload_n 0, 1) := by decide +kernel
theorem dX6_copy_1 : decode cX6_copy 1 = .ok (.aload_n 1, 1) := by decide +kernel
theorem dX6_copy_2 : decode cX6_copy 2 = .ok (.getfield 13, 3) := by decide +kernel
theorem dX6_copy_5 : decode cX6_copy 5 = .ok (.putfield 13, 3) := by decide +kernel
theorem dX6_copy_8 : decode cX6_copy 8 = .ok (.iconst 0, 1) := by decide +kernel
theorem dX6_copy_9 : decode cX6_copy 9 = .ok (.istore_n 2, 1) := by decide +kernel
theorem dX6_copy_10 : decode cX6_copy 10 = .ok (.iload_n 2, 1) := by decide +kernel
theorem dX6_copy_11 : decode cX6_copy 11 = .ok (.aload_n 0, 1) := by decide +kernel
theorem dX6_copy_12 : decode cX6_copy 12 = .ok (.getfield 13, 3) := by decide +kernel
theorem dX6_copy_15 : decode cX6_copy 15 = .ok (.if_icmp .ge 21, 3) := by decide +kernel
theorem dX6_copy_18 : decode cX6_copy 18 = .ok (.aload_n 0, 1) := by decide +kernel
theorem dX6_copy_19 : decode cX6_copy 19 = .ok (.getfield 9, 3) := by decide +kernel
theorem dX6_copy_22 : decode cX6_copy 22 = .ok (.iload_n 2, 1) := by decide +kernel
theorem dX6_copy_23 : decode cX6_copy 23 = .ok (.aload_n 1, 1) := by decide +kernel
theorem dX6_copy_24 : decode cX6_copy 24 = .ok (.getfield 9, 3) := by decide +kernel
theorem dX6_copy_27 : decode cX6_copy 27 = .ok (.iload_n 2, 1) := by decide +kernel
theorem dX6_copy_28 : decode cX6_copy 28 = .ok (.laload, 1) := by decide +kernel
theorem dX6_copy_29 : decode cX6_copy 29 = .ok (.lastore, 1) := by decide +kernel
theorem dX6_copy_30 : decode cX6_copy 30 = .ok (.iinc 2 1, 3) := by decide +kernel
theorem dX6_copy_33 : decode cX6_copy 33 = .ok (.goto (-23), 3) := by decide +kernel
theorem dX6_copy_36 : decode cX6_copy 36 = .ok (.return_, 1) := by decide +kernel
set_option maxRecDepth 20000 in
theorem ggX7_isWord_X7_lengthOf : GoodIn wsX7_isWord wsX7_lengthOf := goodIn_r _ [5] (by decide +kernel) (by decide +kernel)
set_option maxRecDepth 20000 in
theorem gX7_isWord_X7_lengthOf : GoodIn wsX7_isWord (va_wsS RX7 11 yX7_lengthOf wsX7_lengthOf) := goodIn_app (goodIn_of _ (by decide +kernel)) ggX7_isWord_X7_lengthOf
set_option maxRecDepth 20000 in
theorem ggX7_isWord_X7_letter : GoodIn wsX7_isWord wsX7_letter := goodIn_r _ [8] (by decide +kernel) (by decide +kernel)
set_option maxRecDepth 20000 in
theorem gX7_isWord_X7_letter : GoodIn wsX7_isWord (va_wsS RX7 15 yX7_letter wsX7_letter) := goodIn_app (goodIn_of _ (by decide +kernel)) ggX7_isWord_X7_letter
theorem dX7_isWord_0 : decode cX7_isWord 0 = .ok (.lload_n 0, 1) := by decide +kernel
theorem dX7_isWord_1 : decode cX7_isWord 1 = .ok (.lconst 0, 1) := by decide +kernel
theorem dX7_isWord_2 : decode cX7_isWord 2 = .ok (.lcmp, 1) := by decide +kernel
theorem dX7_isWord_3 : decode cX7_isWord 3 = .ok (.ifCond .le 11, 3) := by decide +kernel
theorem dX7_isWord_6 : decode cX7_isWord 6 = .ok (.lload_n 0, 1) := by decide +kernel
theorem dX7_isWord_7 : decode cX7_isWord 7 = .ok (.ldc2_w 9, 3) := by decide +kernel
theorem dX7_isWord_10 : decode cX7_isWord 10 = .ok (.lcmp, 1) := by decide +kernel
theorem dX7_isWord_11 : decode cX7_isWord 11 = .ok (.ifCond .lt 5, 3) := by decide +kernel
theorem dX7_isWord_14 : decode cX7_isWord 14 = .ok (.iconst 0, 1) := by decide +kernel
theorem dX7_isWord_15 : decode cX7_isWord 15 = .ok (.ireturn, 1) := by decide +kernel
theorem dX7_isWord_16 : decode cX7_isWord 16 = .ok (.lload_n 0, 1) := by decide +kernel
theorem dX7_isWord_17 : decode cX7_isWord 17 = .ok (.invokestatic 11, 3) := by decide +kernel
theorem dX7_isWord_20 : decode cX7_isWord 20 = .ok (.istore_n 2, 1) := by decide +kernel
theorem dX7_isWord_21 : decode cX7_isWord 21 = .ok (.iconst 0, 1) := by decide +kernel
theorem dX7_isWord_22 : decode cX7_isWord 22 = .ok (.istore_n 3, 1) := by decide +kernel
theorem dX7_isWord_23 : decode cX7_isWord 23 = .ok (.iload_n 3, 1) := by decide +kernel
theorem dX7_isWord_24 : decode cX7_isWord 24 = .ok (.iload_n 2, 1) := by decide +kernel
theorem dX7_isWord_25 : decode cX7_isWord 25 = .ok (.if_icmp .ge 31, 3) := by decide +kernel
theorem dX7_isWord_28 : decode cX7_isWord 28 = .ok (.lload_n 0, 1) := by decide +kernel
theorem dX7_isWord_29 : decode cX7_isWord 29 = .ok (.iload_n 3, 1) := by decide +kernel
theorem dX7_isWord_30 : decode cX7_isWord 30 = .ok (.invokestatic 15, 3) := by decide +kernel
theorem dX7_isWord_33 : decode cX7_isWord 33 = .ok (.istore 4, 2) := by decide +kernel
theorem dX7_isWord_35 : decode cX7_isWord 35 = .ok (.iload 4, 2) := by decide +kernel
theorem dX7_isWord_37 : decode cX7_isWord 37 = .ok (.iconst 1, 1) := by decide +kernel
theorem dX7_isWord_38 : decode cX7_isWord 38 = .ok (.if_icmp .lt 10, 3) := by decide +kernel
theorem dX7_isWord_41 : decode cX7_isWord 41 = .ok (.iload 4, 2) := by decide +kernel
theorem dX7_isWord_43 : decode cX7_isWord 43 = .ok (.bipush 26, 2) := by decide +kernel
theorem dX7_isWord_45 : decode cX7_isWord 45 = .ok (.if_icmp .le 5, 3) := by decide +kernel
theorem dX7_isWord_48 : decode cX7_isWord 48 = .ok (.iconst 0, 1) := by decide +kernel
theorem dX7_isWord_49 : decode cX7_isWord 49 = .ok (.ireturn, 1) := by decide +kernel
theorem dX7_isWord_50 : decode cX7_isWord 50 = .ok (.iinc 3 1, 3) := by decide +kernel
theorem dX7_isWord_53 : decode cX7_isWord 53 = .ok (.goto (-30), 3) := by decide +kernel
theorem dX7_isWord_56 : decode cX7_isWord 56 = .ok (.iconst 1, 1) := by decide +kernel
theorem dX7_isWord_57 : decode cX7_isWord 57 = .ok (.ireturn, 1) := by decide +kernel
theorem dX7_lengthOf_0 : decode cX7_lengthOf 0 = .ok (.iconst 0, 1) := by decide +kernel
theorem dX7_lengthOf_1 : decode cX7_lengthOf 1 = .ok (.istore_n 2, 1) := by decide +kernel
theorem dX7_lengthOf_2 : decode cX7_lengthOf 2 = .ok (.iload_n 2, 1) := by decide +kernel
theorem dX7_lengthOf_3 : decode cX7_lengthOf 3 = .ok (.bipush 12, 2) := by decide +kernel
theorem dX7_lengthOf_5 : decode cX7_lengthOf 5 = .ok (.if_icmp .ge 19, 3) := by decide +kernel
theorem dX7_lengthOf_8 : decode cX7_lengthOf 8 = .ok (.lload_n 0, 1) := by decide +kernel
theorem dX7_lengthOf_9 : decode cX7_lengthOf 9 = .ok (.iconst 5, 1) := by decide +kernel
theorem dX7_lengthOf_10 : decode cX7_lengthOf 10 = .ok (.iload_n 2, 1) := by decide +kernel
theorem dX7_lengthOf_11 : decode cX7_lengthOf 11 = .ok (.imul, 1) := by decide +kernel
theorem dX7_lengthOf_12 : decode cX7_lengthOf 12 = .ok (.lushr, 1) := by decide +kernel
theorem dX7_lengthOf_13 : decode cX7_lengthOf 13 = .ok (.lconst 0, 1) := by decide +kernel
theorem dX7_lengthOf_14 : decode cX7_lengthOf 14 = .ok (.lcmp, 1) := by decide +kernel
theorem dX7_lengthOf_15 : decode cX7_lengthOf 15 = .ok (.ifCond .eq 9, 3) := by decide +kernel
theorem dX7_lengthOf_18 : decode cX7_lengthOf 18 = .ok (.iinc 2 1, 3) := by decide +kernel
theorem dX7_lengthOf_21 : decode cX7_lengthOf 21 = .ok (.goto (-19), 3) := by decide +kernel
theorem dX7_lengthOf_24 : decode cX7_lengthOf 24 = .ok (.iload_n 2, 1) := by decide +kernel
theorem dX7_lengthOf_25 : decode cX7_lengthOf 25 = .ok (.ireturn, 1) := by decide +kernel
theorem dX7_letter_0 : decode cX7_letter 0 = .ok (.lload_n 0, 1) := by decide +kernel
theorem dX7_letter_1 : decode cX7_letter 1 = .ok (.iconst 5, 1) := by decide +kernel
theorem dX7_letter_2 : decode cX7_letter 2 = .ok (.iload_n 2, 1) := by decide +kernel
theorem dX7_letter_3 : decode cX7_letter 3 = .ok (.imul, 1) := by decide +kernel
theorem dX7_letter_4 : decode cX7_letter 4 = .ok (.lushr, 1) := by decide +kernel
theorem dX7_letter_5 : decode cX7_letter 5 = .ok (.l2i, 1) := by decide +kernel
theorem dX7_letter_6 : decode cX7_letter 6 = .ok (.bipush 31, 2) := by decide +kernel
theorem dX7_letter_8 : decode cX7_letter 8 = .ok (.iand, 1) := by decide +kernel
theorem dX7_letter_9 : decode cX7_letter 9 = .ok (.ireturn, 1) := by decide +kernel
set_option maxRecDepth 20000 in
theorem ggX7_rank_X7_lengthOf : GoodIn wsX7_rank wsX7_lengthOf := goodIn_r _ [4] (by decide +kernel) (by decide +kernel)
set_option maxRecDepth 20000 in
theorem gX7_rank_X7_lengthOf : GoodIn wsX7_rank (va_wsS RX7 11 yX7_lengthOf wsX7_lengthOf) := goodIn_app (goodIn_of _ (by decide +kernel)) ggX7_rank_X7_lengthOf
theorem dX7_rank_0 : decode cX7_rank 0 = .ok (.lload_n 0, 1) := by decide +kernel
theorem dX7_rank_1 : decode cX7_rank 1 = .ok (.iconst 5, 1) := by decide +kernel
theorem dX7_rank_2 : decode cX7_rank 2 = .ok (.bipush 12, 2) := by decide +kernel
theorem dX7_rank_4 : decode cX7_rank 4 = .ok (.lload_n 0, 1) := by decide +kernel
theorem dX7_rank_5 : decode cX7_rank 5 = .ok (.invokestatic 11, 3) := by decide +kernel
theorem dX7_rank_8 : decode cX7_rank 8 = .ok (.isub, 1) := by decide +kernel
theorem dX7_rank_9 : decode cX7_rank 9 = .ok (.imul, 1) := by decide +kernel
theorem dX7_rank_10 : decode cX7_rank 10 = .ok (.lshl, 1) := by decide +kernel
theorem dX7_rank_11 : decode cX7_rank 11 = .ok (.lreturn, 1) := by decide +kernel
set_option maxRecDepth 20000 in
theorem ggX7_occurrences_X7_lengthOf : GoodIn wsX7_occurrences wsX7_lengthOf := goodIn_r _ [4] (by decide +kernel) (by decide +kernel)
set_option maxRecDepth 20000 in
theorem gX7_occurrences_X7_lengthOf : GoodIn wsX7_occurrences (va_wsS RX7 11 yX7_lengthOf wsX7_lengthOf) := goodIn_app (goodIn_of _ (by decide +kernel)) ggX7_occurrences_X7_lengthOf
set_option maxRecDepth 20000 in
theorem ggX7_occurrences_X7_letter : GoodIn wsX7_occurrences wsX7_letter := goodIn_r _ [7] (by decide +kernel) (by decide +kernel)
set_option maxRecDepth 20000 in
theorem gX7_occurrences_X7_letter : GoodIn wsX7_occurrences (va_wsS RX7 15 yX7_letter wsX7_letter) := goodIn_app (goodIn_of _ (by decide +kernel)) ggX7_occurrences_X7_letter
theorem dX7_occurrences_0 : decode cX7_occurrences 0 = .ok (.lload_n 0, 1) := by decide +kernel
theorem dX7_occurrences_1 : decode cX7_occurrences 1 = .ok (.invokestatic 11, 3) := by decide +kernel
theorem dX7_occurrences_4 : decode cX7_occurrences 4 = .ok (.istore_n 3, 1) := by decide +kernel
theorem dX7_occurrences_5 : decode cX7_occurrences 5 = .ok (.iconst 0, 1) := by decide +kernel
theorem dX7_occurrences_6 : decode cX7_occurrences 6 = .ok (.istore 4, 2) := by decide +kernel
theorem dX7_occurrences_8 : decode cX7_occurrences 8 = .ok (.iconst 0, 1) := by decide +kernel
theorem dX7_occurrences_9 : decode cX7_occurrences 9 = .ok (.istore 5, 2) := by decide +kernel
theorem dX7_occurrences_11 : decode cX7_occurrences 11 = .ok (.iload 5, 2) := by decide +kernel
theorem dX7_occurrences_13 : decode cX7_occurrences 13 = .ok (.iload_n 3, 1) := by decide +kernel
theorem dX7_occurrences_14 : decode cX7_occurrences 14 = .ok (.if_icmp .ge 22, 3) := by decide +kernel
theorem dX7_occurrences_17 : decode cX7_occurrences 17 = .ok (.lload_n 0, 1) := by decide +kernel
theorem dX7_occurrences_18 : decode cX7_occurrences 18 = .ok (.iload 5, 2) := by decide +kernel
theorem dX7_occurrences_20 : decode cX7_occurrences 20 = .ok (.invokestatic 15, 3) := by decide +kernel
theorem dX7_occurrences_23 : decode cX7_occurrences 23 = .ok (.iload_n 2, 1) := by decide +kernel
theorem dX7_occurrences_24 : decode cX7_occurrences 24 = .ok (.if_icmp .ne 6, 3) := by decide +kernel
theorem dX7_occurrences_27 : decode cX7_occurrences 27 = .ok (.iinc 4 1, 3) := by decide +kernel
theorem dX7_occurrences_30 : decode cX7_occurrences 30 = .ok (.iinc 5 1, 3) := by decide +kernel
theorem dX7_occurrences_33 : decode cX7_occurrences 33 = .ok (.goto (-22), 3) := by decide +kernel
theorem dX7_occurrences_36 : decode cX7_occurrences 36 = .ok (.iload 4, 2) := by decide +kernel
theorem dX7_occurrences_38 : decode cX7_occurrences 38 = .ok (.ireturn, 1) := by decide +kernel
set_option maxRecDepth 20000 in
theorem ggX8_init_X1_init : GoodIn wsX8_init wsX1_init := goodIn_r _ [25, 26, 2, 3, 27, 28, 29, 30, 31, 32, 21, 22, 33, 34, 35, 36, 37, 38, 39, 40, 41, 42, 43, 204, 205, 183, 184, 185, 203] (by decide +kernel) (by decide +kernel)
set_option maxRecDepth 20000 in
theorem gX8_init_X1_init_n9 : GoodIn wsX8_init (wsX1_init) := ggX8_init_X1_init
set_option maxRecDepth 20000 in
theorem ggX8_init_X5_init : GoodIn wsX8_init wsX5_init := goodIn_r _ [46, 47, 2, 3, 48, 21, 22, 49, 42, 50, 51, 39, 40, 41, 43, 52, 53, 10, 54, 55, 56, 57, 58, 59, 60, 61, 62, 63, 64, 65, 66, 67, 68, 69, 70, 71, 72, 73, 74, 75, 76, 77, 78, 79, 80, 81, 82, 83, 84, 85, 86, 87, 88, 89, 90, 91, 92, 93, 94, 95, 96, 97, 98, 99, 100, 101, 102, 103, 104, 105, 106, 107, 108, 109, 110, 111, 112, 113, 114, 115, 116, 117, 118, 119, 120, 121, 122, 123, 124, 125, 126, 127, 128, 129, 130, 131, 132, 133, 134, 135, 136, 137, 138, 139, 140, 141, 142, 143, 144, 145, 146, 147, 148, 149, 203, 191, 192, 193] (by decide +kernel) (by decide +kernel)
set_option maxRecDepth 20000 in
theorem gX8_init_X5_init : GoodIn wsX8_init (wsX5_init) := ggX8_init_X5_init
set_option maxRecDepth 20000 in
theorem ggX8_init_X0_init : GoodIn wsX8_init wsX0_init := goodIn_r _ [151, 152, 2, 3, 153, 154, 155, 156, 157, 21, 22, 158, 159, 160, 161, 162, 163, 164, 165, 166, 167, 168, 169, 170, 171, 172, 173, 174, 39, 40, 41, 42, 43, 206, 207, 208, 194, 195, 196, 197, 203] (by decide +kernel) (by decide +kernel)
set_option maxRecDepth 20000 in
theorem gX8_init_X0_init_n25 : GoodIn wsX8_init (wsX0_init) := ggX8_init_X0_init
set_option maxRecDepth 20000 in
theorem ggX8_init_X3_init : GoodIn wsX8_init wsX3_init := goodIn_r _ [176, 177, 2, 3, 178, 21, 22, 179, 180, 28, 29, 181, 182, 39, 40, 41, 42, 43, 34, 35, 36, 37, 38, 203, 198, 199, 200, 201, 202, 204, 205] (by decide +kernel) (by decide +kernel)
set_option maxRecDepth 20000 in
theorem gX8_init_X3_init_n32 : GoodIn wsX8_init (wsX3_init) := ggX8_init_X3_init
set_option maxRecDepth 20000 in
theorem ggX8_init_X2_init : GoodIn wsX8_init wsX2_init := goodIn_r _ [40, 41, 2, 3, 42, 43, 203] (by decide +kernel) (by decide +kernel)
set_option maxRecDepth 20000 in
theorem gX8_init_X2_init_n39 : GoodIn wsX8_init (wsX2_init) := ggX8_init_X2_init
theorem dX8_init_0 : decode cX8_init 0 = .ok (.aload_n 0, 1) := by decide +kernel
theorem dX8_init_1 : decode cX8_init 1 = .ok (.invokespecial 1, 3) := by decide +kernel
theorem dX8_init_4 : decode cX8_init 4 = .ok (.aload_n 0, 1) := by decide +kernel
theorem dX8_init_5 : decode cX8_init 5 = .ok (.new 7, 3) := by decide +kernel
theorem dX8_init_8 : decode cX8_init 8 = .ok (.dup, 1) := by decide +kernel
theorem dX8_init_9 : decode cX8_init 9 = .ok (.invokespecial 9, 3) := by decide +kernel
theorem dX8_init_12 : decode cX8_init 12 = .ok (.putfield 10, 3) := by decide +kernel
theorem dX8_init_15 : decode cX8_init 15 = .ok (.aload_n 0, 1) := by decide +kernel
theorem dX8_init_16 : decode cX8_init 16 = .ok (.new 16, 3) := by decide +kernel
theorem dX8_init_19 : decode cX8_init 19 = .ok (.dup, 1) := by decide +kernel
theorem dX8_init_20 : decode cX8_init 20 = .ok (.invokespecial 18, 3) := by decide +kernel
theorem dX8_init_23 : decode cX8_init 23 = .ok (.putfield 19, 3) := by decide +kernel
theorem dX8_init_26 : decode cX8_init 26 = .ok (.aload_n 0, 1) := by decide +kernel
theorem dX8_init_27 : decode cX8_init 27 = .ok (.new 23, 3) := by decide +kernel
theorem dX8_init_30 : decode cX8_init 30 = .ok (.dup, 1) := by decide +kernel
theorem dX8_init_31 : decode cX8_init 31 = .ok (.invokespecial 25, 3) := by decide +kernel
theorem dX8_init_34 : decode cX8_init 34 = .ok (.putfield 26, 3) := by decide +kernel
theorem dX8_init_37 : decode cX8_init 37 = .ok (.aload_n 0, 1) := by decide +kernel
theorem dX8_init_38 : decode cX8_init 38 = .ok (.new 30, 3) := by decide +kernel
theorem dX8_init_41 : decode cX8_init 41 = .ok (.dup, 1) := by decide +kernel
theorem dX8_init_42 : decode cX8_init 42 = .ok (.invokespecial 32, 3) := by decide +kernel
theorem dX8_init_45 : decode cX8_init 45 = .ok (.putfield 33, 3) := by decide +kernel
theorem dX8_init_48 : decode cX8_init 48 = .ok (.aload_n 0, 1) := by decide +kernel
theorem dX8_init_49 : decode cX8_init 49 = .ok (.new 37, 3) := by decide +kernel
theorem dX8_init_52 : decode cX8_init 52 = .ok (.dup, 1) := by decide +kernel
theorem dX8_init_53 : decode cX8_init 53 = .ok (.invokespecial 39, 3) := by decide +kernel
theorem dX8_init_56 : decode cX8_init 56 = .ok (.putfield 40, 3) := by decide +kernel
theorem dX8_init_59 : decode cX8_init 59 = .ok (.return_, 1) := by decide +kernel
set_option maxRecDepth 20000 in
theorem ggX8_addWord_X8_requireWord : GoodIn wsX8_addWord wsX8_requireWord := goodIn_ca (goodIn_r _ [7, 8, 9, 10, 11, 12, 13, 14, 15, 16, 17, 18, 19, 20] (by decide +kernel) (by decide +kernel)) (goodIn_sub (fun _ h => List.mem_cons_of_mem _ (List.mem_append_right _ h)) (by decide +kernel))
set_option maxRecDepth 20000 in
theorem gX8_addWord_X8_requireWord : GoodIn wsX8_addWord (va_wsS RX8 44 yX8_requireWord wsX8_requireWord) := goodIn_app (goodIn_of _ (by decide +kernel)) ggX8_addWord_X8_requireWord
set_option maxRecDepth 20000 in
theorem ggX8_addWord_X1_contains : GoodIn wsX8_addWord wsX1_contains := goodIn_r _ [25, 26, 27, 28, 29, 24, 30, 31, 32, 12, 33, 15, 16, 17, 34, 35, 36, 37, 38, 39, 40, 41, 42, 43, 44, 67, 68, 69, 70, 71] (by decide +kernel) (by decide +kernel)
set_option maxRecDepth 20000 in
theorem gX8_addWord_X1_contains : GoodIn wsX8_addWord (wsV RX8 48 RX1 yX1_contains wsX1_contains) := goodIn_app (goodIn_of _ (by decide +kernel)) ggX8_addWord_X1_contains
set_option maxRecDepth 20000 in
theorem ggX8_addWord_X1_words : GoodIn wsX8_addWord wsX1_words := goodIn_r _ [48, 26, 67, 68, 69] (by decide +kernel) (by decide +kernel)
set_option maxRecDepth 20000 in
theorem gX8_addWord_X1_words : GoodIn wsX8_addWord (wsV RX8 59 RX1 yX1_words wsX1_words) := goodIn_app (goodIn_of _ (by decide +kernel)) ggX8_addWord_X1_words
set_option maxRecDepth 20000 in
theorem ggX8_addWord_X6_isFull : GoodIn wsX8_addWord wsX6_isFull := goodIn_r _ [52, 39, 70, 71] (by decide +kernel) (by decide +kernel)
set_option maxRecDepth 20000 in
theorem gX8_addWord_X6_isFull : GoodIn wsX8_addWord (wsV RX8 63 RX6 yX6_isFull wsX6_isFull) := goodIn_app (goodIn_of _ (by decide +kernel)) ggX8_addWord_X6_isFull
set_option maxRecDepth 20000 in
theorem ggX8_addWord_X1_insert : GoodIn wsX8_addWord wsX1_insert := goodIn_r _ [56, 26, 27, 28, 29, 24, 30, 31, 32, 12, 33, 15, 16, 17, 34, 35, 36, 37, 38, 39, 40, 41, 42, 43, 44, 57, 58, 59, 60, 67, 68, 69, 70, 71] (by decide +kernel) (by decide +kernel)
set_option maxRecDepth 20000 in
theorem gX8_addWord_X1_insert : GoodIn wsX8_addWord (wsV RX8 71 RX1 yX1_insert wsX1_insert) := goodIn_app (goodIn_of _ (by decide +kernel)) ggX8_addWord_X1_insert
set_option maxRecDepth 20000 in
theorem ggX8_addWord_X6_size : GoodIn wsX8_addWord wsX6_size := goodIn_r _ [38, 39, 70, 71] (by decide +kernel) (by decide +kernel)
set_option maxRecDepth 20000 in
theorem gX8_addWord_X6_size : GoodIn wsX8_addWord (wsV RX8 74 RX6 yX6_size wsX6_size) := goodIn_app (goodIn_of _ (by decide +kernel)) ggX8_addWord_X6_size
theorem dX8_addWord_0 : decode cX8_addWord 0 = .ok (.lload_n 1, 1) := by decide +kernel
theorem dX8_addWord_1 : decode cX8_addWord 1 = .ok (.invokestatic 44, 3) := by decide +kernel
theorem dX8_addWord_4 : decode cX8_addWord 4 = .ok (.aload_n 0, 1) := by decide +kernel
theorem dX8_addWord_5 : decode cX8_addWord 5 = .ok (.getfield 10, 3) := by decide +kernel
theorem dX8_addWord_8 : decode cX8_addWord 8 = .ok (.lload_n 1, 1) := by decide +kernel
theorem dX8_addWord_9 : decode cX8_addWord 9 = .ok (.invokevirtual 48, 3) := by decide +kernel
theorem dX8_addWord_12 : decode cX8_addWord 12 = .ok (.ifCond .eq 13, 3) := by decide +kernel
theorem dX8_addWord_15 : decode cX8_addWord 15 = .ok (.new 52, 3) := by decide +kernel
theorem dX8_addWord_18 : decode cX8_addWord 18 = .ok (.dup, 1) := by decide +kernel
theorem dX8_addWord_19 : decode cX8_addWord 19 = .ok (.ldc 54, 2) := by decide +kernel
theorem dX8_addWord_21 : decode cX8_addWord 21 = .ok (.invokespecial 56, 3) := by decide +kernel
theorem dX8_addWord_24 : decode cX8_addWord 24 = .ok (.athrow, 1) := by decide +kernel
theorem dX8_addWord_25 : decode cX8_addWord 25 = .ok (.aload_n 0, 1) := by decide +kernel
theorem dX8_addWord_26 : decode cX8_addWord 26 = .ok (.getfield 10, 3) := by decide +kernel
theorem dX8_addWord_29 : decode cX8_addWord 29 = .ok (.invokevirtual 59, 3) := by decide +kernel
theorem dX8_addWord_32 : decode cX8_addWord 32 = .ok (.invokevirtual 63, 3) := by decide +kernel
theorem dX8_addWord_35 : decode cX8_addWord 35 = .ok (.ifCond .eq 13, 3) := by decide +kernel
theorem dX8_addWord_38 : decode cX8_addWord 38 = .ok (.new 52, 3) := by decide +kernel
theorem dX8_addWord_41 : decode cX8_addWord 41 = .ok (.dup, 1) := by decide +kernel
theorem dX8_addWord_42 : decode cX8_addWord 42 = .ok (.ldc 69, 2) := by decide +kernel
theorem dX8_addWord_44 : decode cX8_addWord 44 = .ok (.invokespecial 56, 3) := by decide +kernel
theorem dX8_addWord_47 : decode cX8_addWord 47 = .ok (.athrow, 1) := by decide +kernel
theorem dX8_addWord_48 : decode cX8_addWord 48 = .ok (.aload_n 0, 1) := by decide +kernel
theorem dX8_addWord_49 : decode cX8_addWord 49 = .ok (.getfield 10, 3) := by decide +kernel
theorem dX8_addWord_52 : decode cX8_addWord 52 = .ok (.lload_n 1, 1) := by decide +kernel
theorem dX8_addWord_53 : decode cX8_addWord 53 = .ok (.invokevirtual 71, 3) := by decide +kernel
theorem dX8_addWord_56 : decode cX8_addWord 56 = .ok (.aload_n 0, 1) := by decide +kernel
theorem dX8_addWord_57 : decode cX8_addWord 57 = .ok (.getfield 10, 3) := by decide +kernel
theorem dX8_addWord_60 : decode cX8_addWord 60 = .ok (.invokevirtual 59, 3) := by decide +kernel
theorem dX8_addWord_63 : decode cX8_addWord 63 = .ok (.invokevirtual 74, 3) := by decide +kernel
theorem dX8_addWord_66 : decode cX8_addWord 66 = .ok (.ireturn, 1) := by decide +kernel
set_option maxRecDepth 20000 in
theorem ggX8_removeWord_X8_requireWord : GoodIn wsX8_removeWord wsX8_requireWord := goodIn_ca (goodIn_r _ [7, 8, 9, 10, 11, 12, 13, 14, 15, 16, 17, 18, 19, 20] (by decide +kernel) (by decide +kernel)) (goodIn_sub (fun _ h => List.mem_cons_of_mem _ (List.mem_append_right _ h)) (by decide +kernel))
set_option maxRecDepth 20000 in
theorem gX8_removeWord_X8_requireWord : GoodIn wsX8_removeWord (va_wsS RX8 44 yX8_requireWord wsX8_requireWord) := goodIn_app (goodIn_of _ (by decide +kernel)) ggX8_removeWord_X8_requireWord
set_option maxRecDepth 20000 in
theorem ggX8_removeWord_X1_contains : GoodIn wsX8_removeWord wsX1_contains := goodIn_r _ [25, 26, 27, 28, 29, 24, 30, 31, 32, 12, 33, 15, 16, 17, 34, 35, 36, 37, 38, 39, 40, 41, 42, 43, 44, 63, 64, 65, 66, 67] (by decide +kernel) (by decide +kernel)
set_option maxRecDepth 20000 in
theorem gX8_removeWord_X1_contains : GoodIn wsX8_removeWord (wsV RX8 48 RX1 yX1_contains wsX1_contains) := goodIn_app (goodIn_of _ (by decide +kernel)) ggX8_removeWord_X1_contains
set_option maxRecDepth 20000 in
theorem ggX8_removeWord_X1_delete : GoodIn wsX8_removeWord wsX1_delete := goodIn_r _ [48, 26, 27, 28, 29, 24, 30, 31, 32, 12, 33, 15, 16, 17, 34, 35, 36, 37, 38, 39, 40, 41, 42, 43, 44, 49, 50, 51, 52, 63, 64, 65, 66, 67] (by decide +kernel) (by decide +kernel)
set_option maxRecDepth 20000 in
theorem gX8_removeWord_X1_delete : GoodIn wsX8_removeWord (wsV RX8 83 RX1 yX1_delete wsX1_delete) := goodIn_app (goodIn_of _ (by decide +kernel)) ggX8_removeWord_X1_delete
set_option maxRecDepth 20000 in
theorem ggX8_removeWord_X1_words : GoodIn wsX8_removeWord wsX1_words := goodIn_r _ [56, 26, 63, 64, 65] (by decide +kernel) (by decide +kernel)
set_option maxRecDepth 20000 in
theorem gX8_removeWord_X1_words : GoodIn wsX8_removeWord (wsV RX8 59 RX1 yX1_words wsX1_words) := goodIn_app (goodIn_of _ (by decide +kernel)) ggX8_removeWord_X1_words
set_option maxRecDepth 20000 in
theorem ggX8_removeWord_X6_size : GoodIn wsX8_removeWord wsX6_size := goodIn_r _ [38, 39, 66, 67] (by decide +kernel) (by decide +kernel)
set_option maxRecDepth 20000 in
theorem gX8_removeWord_X6_size : GoodIn wsX8_removeWord (wsV RX8 74 RX6 yX6_size wsX6_size) := goodIn_app (goodIn_of _ (by decide +kernel)) ggX8_removeWord_X6_size
theorem dX8_removeWord_0 : decode cX8_removeWord 0 = .ok (.lload_n 1, 1) := by decide +kernel
theorem dX8_removeWord_1 : decode cX8_removeWord 1 = .ok (.invokestatic 44, 3) := by decide +kernel
theorem dX8_removeWord_4 : decode cX8_removeWord 4 = .ok (.aload_n 0, 1) := by decide +kernel
theorem dX8_removeWord_5 : decode cX8_removeWord 5 = .ok (.getfield 10, 3) := by decide +kernel
theorem dX8_removeWord_8 : decode cX8_removeWord 8 = .ok (.lload_n 1, 1) := by decide +kernel
theorem dX8_removeWord_9 : decode cX8_removeWord 9 = .ok (.invokevirtual 48, 3) := by decide +kernel
theorem dX8_removeWord_12 : decode cX8_removeWord 12 = .ok (.ifCond .ne 13, 3) := by decide +kernel
theorem dX8_removeWord_15 : decode cX8_removeWord 15 = .ok (.new 78, 3) := by decide +kernel
theorem dX8_removeWord_18 : decode cX8_removeWord 18 = .ok (.dup, 1) := by decide +kernel
theorem dX8_removeWord_19 : decode cX8_removeWord 19 = .ok (.ldc 80, 2) := by decide +kernel
theorem dX8_removeWord_21 : decode cX8_removeWord 21 = .ok (.invokespecial 82, 3) := by decide +kernel
theorem dX8_removeWord_24 : decode cX8_removeWord 24 = .ok (.athrow, 1) := by decide +kernel
theorem dX8_removeWord_25 : decode cX8_removeWord 25 = .ok (.aload_n 0, 1) := by decide +kernel
theorem dX8_removeWord_26 : decode cX8_removeWord 26 = .ok (.getfield 10, 3) := by decide +kernel
theorem dX8_removeWord_29 : decode cX8_removeWord 29 = .ok (.lload_n 1, 1) := by decide +kernel
theorem dX8_removeWord_30 : decode cX8_removeWord 30 = .ok (.invokevirtual 83, 3) := by decide +kernel
theorem dX8_removeWord_33 : decode cX8_removeWord 33 = .ok (.aload_n 0, 1) := by decide +kernel
theorem dX8_removeWord_34 : decode cX8_removeWord 34 = .ok (.getfield 10, 3) := by decide +kernel
theorem dX8_removeWord_37 : decode cX8_removeWord 37 = .ok (.invokevirtual 59, 3) := by decide +kernel
theorem dX8_removeWord_40 : decode cX8_removeWord 40 = .ok (.invokevirtual 74, 3) := by decide +kernel
theorem dX8_removeWord_43 : decode cX8_removeWord 43 = .ok (.ireturn, 1) := by decide +kernel
set_option maxRecDepth 20000 in
theorem ggX8_wordCount_X1_words : GoodIn wsX8_wordCount wsX1_words := goodIn_r _ [6, 7, 19, 20, 21] (by decide +kernel) (by decide +kernel)
set_option maxRecDepth 20000 in
theorem gX8_wordCount_X1_words : GoodIn wsX8_wordCount (wsV RX8 59 RX1 yX1_words wsX1_words) := goodIn_app (goodIn_of _ (by decide +kernel)) ggX8_wordCount_X1_words
set_option maxRecDepth 20000 in
theorem ggX8_wordCount_X6_size : GoodIn wsX8_wordCount wsX6_size := goodIn_r _ [12, 13, 22, 23] (by decide +kernel) (by decide +kernel)
set_option maxRecDepth 20000 in
theorem gX8_wordCount_X6_size : GoodIn wsX8_wordCount (wsV RX8 74 RX6 yX6_size wsX6_size) := goodIn_app (goodIn_of _ (by decide +kernel)) ggX8_wordCount_X6_size
theorem dX8_wordCount_0 : decode cX8_wordCount 0 = .ok (.aload_n 0, 1) := by decide +kernel
theorem dX8_wordCount_1 : decode cX8_wordCount 1 = .ok (.getfield 10, 3) := by decide +kernel
theorem dX8_wordCount_4 : decode cX8_wordCount 4 = .ok (.invokevirtual 59, 3) := by decide +kernel
theorem dX8_wordCount_7 : decode cX8_wordCount 7 = .ok (.invokevirtual 74, 3) := by decide +kernel
theorem dX8_wordCount_10 : decode cX8_wordCount 10 = .ok (.ireturn, 1) := by decide +kernel
set_option maxRecDepth 20000 in
theorem ggX8_wordAt_X1_words : GoodIn wsX8_wordAt wsX1_words := goodIn_r _ [6, 7, 30, 31, 32] (by decide +kernel) (by decide +kernel)
set_option maxRecDepth 20000 in
theorem gX8_wordAt_X1_words : GoodIn wsX8_wordAt (wsV RX8 59 RX1 yX1_words wsX1_words) := goodIn_app (goodIn_of _ (by decide +kernel)) ggX8_wordAt_X1_words
set_option maxRecDepth 20000 in
theorem ggX8_wordAt_X8_requireWordOf : GoodIn wsX8_wordAt wsX8_requireWordOf := goodIn_ca (goodIn_r _ [11, 12, 13, 14, 15, 16, 17, 18, 19, 20, 21, 22, 23, 24, 33, 34] (by decide +kernel) (by decide +kernel)) (goodIn_sub (fun _ h => List.mem_cons_of_mem _ (List.mem_append_right _ h)) (by decide +kernel))
set_option maxRecDepth 20000 in
theorem gX8_wordAt_X8_requireWordOf : GoodIn wsX8_wordAt (va_wsS RX8 86 yX8_requireWordOf wsX8_requireWordOf) := goodIn_app (goodIn_of _ (by decide +kernel)) ggX8_wordAt_X8_requireWordOf
theorem dX8_wordAt_0 : decode cX8_wordAt 0 = .ok (.aload_n 0, 1) := by decide +kernel
theorem dX8_wordAt_1 : decode cX8_wordAt 1 = .ok (.getfield 10, 3) := by decide +kernel
theorem dX8_wordAt_4 : decode cX8_wordAt 4 = .ok (.invokevirtual 59, 3) := by decide +kernel
theorem dX8_wordAt_7 : decode cX8_wordAt 7 = .ok (.iload_n 1, 1) := by decide +kernel
theorem dX8_wordAt_8 : decode cX8_wordAt 8 = .ok (.invokestatic 86, 3) := by decide +kernel
theorem dX8_wordAt_11 : decode cX8_wordAt 11 = .ok (.lreturn, 1) := by decide +kernel
set_option maxRecDepth 20000 in
theorem ggX8_hasWord_X8_requireWord : GoodIn wsX8_hasWord wsX8_requireWord := goodIn_ca (goodIn_r _ [5, 6, 7, 8, 9, 10, 11, 12, 13, 14, 15, 16, 17, 18] (by decide +kernel) (by decide +kernel)) (goodIn_sub (fun _ h => List.mem_cons_of_mem _ (List.mem_append_right _ h)) (by decide +kernel))
set_option maxRecDepth 20000 in
theorem gX8_hasWord_X8_requireWord : GoodIn wsX8_hasWord (va_wsS RX8 44 yX8_requireWord wsX8_requireWord) := goodIn_app (goodIn_of _ (by decide +kernel)) ggX8_hasWord_X8_requireWord
set_option maxRecDepth 20000 in
theorem ggX8_hasWord_X1_contains : GoodIn wsX8_hasWord wsX1_contains := goodIn_r _ [23, 24, 25, 26, 27, 22, 28, 29, 30, 10, 31, 13, 14, 15, 32, 33, 34, 35, 36, 37, 38, 39, 40, 41, 42, 48, 49, 50, 51, 52] (by decide +kernel) (by decide +kernel)
set_option maxRecDepth 20000 in
theorem gX8_hasWord_X1_contains : GoodIn wsX8_hasWord (wsV RX8 48 RX1 yX1_contains wsX1_contains) := goodIn_app (goodIn_of _ (by decide +kernel)) ggX8_hasWord_X1_contains
theorem dX8_hasWord_0 : decode cX8_hasWord 0 = .ok (.lload_n 1, 1) := by decide +kernel
theorem dX8_hasWord_1 : decode cX8_hasWord 1 = .ok (.invokestatic 44, 3) := by decide +kernel
theorem dX8_hasWord_4 : decode cX8_hasWord 4 = .ok (.aload_n 0, 1) := by decide +kernel
theorem dX8_hasWord_5 : decode cX8_hasWord 5 = .ok (.getfield 10, 3) := by decide +kernel
theorem dX8_hasWord_8 : decode cX8_hasWord 8 = .ok (.lload_n 1, 1) := by decide +kernel
theorem dX8_hasWord_9 : decode cX8_hasWord 9 = .ok (.invokevirtual 48, 3) := by decide +kernel
theorem dX8_hasWord_12 : decode cX8_hasWord 12 = .ok (.ireturn, 1) := by decide +kernel
set_option maxRecDepth 20000 in
theorem ggX8_anagramCount_X8_requireWord : GoodIn wsX8_anagramCount wsX8_requireWord := goodIn_ca (goodIn_r _ [5, 6, 7, 8, 9, 10, 11, 12, 13, 14, 15, 16, 17, 18] (by decide +kernel) (by decide +kernel)) (goodIn_sub (fun _ h => List.mem_cons_of_mem _ (List.mem_append_right _ h)) (by decide +kernel))
set_option maxRecDepth 20000 in
theorem gX8_anagramCount_X8_requireWord : GoodIn wsX8_anagramCount (va_wsS RX8 44 yX8_requireWord wsX8_requireWord) := goodIn_app (goodIn_of _ (by decide +kernel)) ggX8_anagramCount_X8_requireWord
set_option maxRecDepth 20000 in
theorem ggX8_anagramCount_X1_anagrams : GoodIn wsX8_anagramCount wsX1_anagrams := goodIn_r _ [23, 24, 14, 10, 15, 25, 26, 27, 22, 28, 29, 30, 31, 32, 33, 34, 35, 36, 37, 38, 39, 40, 41, 42, 43, 17, 18, 44, 45, 46, 47, 48, 49, 50, 51, 52, 53, 54, 55, 56, 57, 58, 59, 60, 61, 62, 63, 64, 65, 66, 67, 68, 69, 70, 71, 72, 73, 74, 75, 82, 83, 84, 85, 86, 87] (by decide +kernel) (by decide +kernel)
set_option maxRecDepth 20000 in
theorem gX8_anagramCount_X1_anagrams : GoodIn wsX8_anagramCount (wsV RX8 90 RX1 yX1_anagrams wsX1_anagrams) := goodIn_app (goodIn_of _ (by decide +kernel)) ggX8_anagramCount_X1_anagrams
set_option maxRecDepth 20000 in
theorem ggX8_anagramCount_X6_size : GoodIn wsX8_anagramCount wsX6_size := goodIn_r _ [53, 49, 86, 87] (by decide +kernel) (by decide +kernel)
set_option maxRecDepth 20000 in
theorem gX8_anagramCount_X6_size : GoodIn wsX8_anagramCount (wsV RX8 74 RX6 yX6_size wsX6_size) := goodIn_app (goodIn_of _ (by decide +kernel)) ggX8_anagramCount_X6_size
theorem dX8_anagramCount_0 : decode cX8_anagramCount 0 = .ok (.lload_n 1, 1) := by decide +kernel
theorem dX8_anagramCount_1 : decode cX8_anagramCount 1 = .ok (.invokestatic 44, 3) := by decide +kernel
theorem dX8_anagramCount_4 : decode cX8_anagramCount 4 = .ok (.aload_n 0, 1) := by decide +kernel
theorem dX8_anagramCount_5 : decode cX8_anagramCount 5 = .ok (.getfield 10, 3) := by decide +kernel
theorem dX8_anagramCount_8 : decode cX8_anagramCount 8 = .ok (.lload_n 1, 1) := by decide +kernel
theorem dX8_anagramCount_9 : decode cX8_anagramCount 9 = .ok (.invokevirtual 90, 3) := by decide +kernel
theorem dX8_anagramCount_12 : decode cX8_anagramCount 12 = .ok (.invokevirtual 74, 3) := by decide +kernel
theorem dX8_anagramCount_15 : decode cX8_anagramCount 15 = .ok (.ireturn, 1) := by decide +kernel
set_option maxRecDepth 20000 in
theorem ggX8_anagramAt_X8_requireWord : GoodIn wsX8_anagramAt wsX8_requireWord := goodIn_ca (goodIn_r _ [5, 6, 7, 8, 9, 10, 11, 12, 13, 14, 15, 16, 17, 18] (by decide +kernel) (by decide +kernel)) (goodIn_sub (fun _ h => List.mem_cons_of_mem _ (List.mem_append_left _ (List.mem_append_right _ h))) (by decide +kernel))
set_option maxRecDepth 20000 in
theorem gX8_anagramAt_X8_requireWord : GoodIn wsX8_anagramAt (va_wsS RX8 44 yX8_requireWord wsX8_requireWord) := goodIn_app (goodIn_of _ (by decide +kernel)) ggX8_anagramAt_X8_requireWord
set_option maxRecDepth 20000 in
theorem ggX8_anagramAt_X1_anagrams : GoodIn wsX8_anagramAt wsX1_anagrams := goodIn_r _ [23, 24, 14, 10, 15, 25, 26, 27, 22, 28, 29, 30, 31, 32, 33, 34, 35, 36, 37, 38, 39, 40, 41, 42, 43, 17, 18, 44, 45, 46, 47, 48, 49, 50, 51, 52, 53, 54, 55, 56, 57, 58, 59, 60, 61, 62, 63, 64, 65, 66, 67, 68, 69, 70, 71, 72, 73, 74, 75, 88, 89, 90, 91, 92, 93] (by decide +kernel) (by decide +kernel)
set_option maxRecDepth 20000 in
theorem gX8_anagramAt_X1_anagrams : GoodIn wsX8_anagramAt (wsV RX8 90 RX1 yX1_anagrams wsX1_anagrams) := goodIn_app (goodIn_of _ (by decide +kernel)) ggX8_anagramAt_X1_anagrams
set_option maxRecDepth 20000 in
theorem ggX8_anagramAt_X8_requireWordOf : GoodIn wsX8_anagramAt wsX8_requireWordOf := goodIn_ca (goodIn_r _ [78, 79, 80, 81, 51, 52, 47, 53, 49, 82, 55, 56, 57, 58, 92, 93] (by decide +kernel) (by decide +kernel)) (goodIn_sub (fun _ h => List.mem_cons_of_mem _ (List.mem_append_right _ h)) (by decide +kernel))
set_option maxRecDepth 20000 in
theorem gX8_anagramAt_X8_requireWordOf : GoodIn wsX8_anagramAt (va_wsS RX8 86 yX8_requireWordOf wsX8_requireWordOf) := goodIn_app (goodIn_of _ (by decide +kernel)) ggX8_anagramAt_X8_requireWordOf
theorem dX8_anagramAt_0 : decode cX8_anagramAt 0 = .ok (.lload_n 1, 1) := by decide +kernel
theorem dX8_anagramAt_1 : decode cX8_anagramAt 1 = .ok (.invokestatic 44, 3) := by decide +kernel
theorem dX8_anagramAt_4 : decode cX8_anagramAt 4 = .ok (.aload_n 0, 1) := by decide +kernel
theorem dX8_anagramAt_5 : decode cX8_anagramAt 5 = .ok (.getfield 10, 3) := by decide +kernel
theorem dX8_anagramAt_8 : decode cX8_anagramAt 8 = .ok (.lload_n 1, 1) := by decide +kernel
theorem dX8_anagramAt_9 : decode cX8_anagramAt 9 = .ok (.invokevirtual 90, 3) := by decide +kernel
theorem dX8_anagramAt_12 : decode cX8_anagramAt 12 = .ok (.iload_n 3, 1) := by decide +kernel
theorem dX8_anagramAt_13 : decode cX8_anagramAt 13 = .ok (.invokestatic 86, 3) := by decide +kernel
theorem dX8_anagramAt_16 : decode cX8_anagramAt 16 = .ok (.lreturn, 1) := by decide +kernel
set_option maxRecDepth 20000 in
theorem ggX8_largestAnagramGroup_X1_words : GoodIn wsX8_largestAnagramGroup wsX1_words := goodIn_r _ [10, 11, 79, 80, 81] (by decide +kernel) (by decide +kernel)
set_option maxRecDepth 20000 in
theorem gX8_largestAnagramGroup_X1_words : GoodIn wsX8_largestAnagramGroup (wsV RX8 59 RX1 yX1_words wsX1_words) := goodIn_app (goodIn_of _ (by decide +kernel)) ggX8_largestAnagramGroup_X1_words
set_option maxRecDepth 20000 in
theorem ggX8_largestAnagramGroup_X6_size : GoodIn wsX8_largestAnagramGroup wsX6_size := goodIn_r _ [16, 17, 82, 83] (by decide +kernel) (by decide +kernel)
set_option maxRecDepth 20000 in
theorem gX8_largestAnagramGroup_X6_size : GoodIn wsX8_largestAnagramGroup (wsV RX8 74 RX6 yX6_size wsX6_size) := goodIn_app (goodIn_of _ (by decide +kernel)) ggX8_largestAnagramGroup_X6_size
set_option maxRecDepth 20000 in
theorem ggX8_largestAnagramGroup_X6_word : GoodIn wsX8_largestAnagramGroup wsX6_word := goodIn_r _ [21, 17, 22, 82, 83] (by decide +kernel) (by decide +kernel)
set_option maxRecDepth 20000 in
theorem gX8_largestAnagramGroup_X6_word : GoodIn wsX8_largestAnagramGroup (wsV RX8 94 RX6 yX6_word wsX6_word) := goodIn_app (goodIn_of _ (by decide +kernel)) ggX8_largestAnagramGroup_X6_word
set_option maxRecDepth 20000 in
theorem ggX8_largestAnagramGroup_X1_anagrams : GoodIn wsX8_largestAnagramGroup wsX1_anagrams := goodIn_r _ [26, 27, 28, 29, 30, 31, 32, 33, 9, 34, 35, 36, 11, 37, 38, 39, 40, 41, 42, 43, 44, 45, 46, 47, 48, 49, 50, 51, 52, 53, 15, 54, 17, 55, 13, 14, 16, 56, 19, 20, 21, 22, 57, 58, 59, 60, 61, 62, 63, 64, 65, 66, 67, 68, 69, 70, 71, 72, 73, 79, 80, 81, 84, 82, 83] (by decide +kernel) (by decide +kernel)
set_option maxRecDepth 20000 in
theorem gX8_largestAnagramGroup_X1_anagrams : GoodIn wsX8_largestAnagramGroup (wsV RX8 90 RX1 yX1_anagrams wsX1_anagrams) := goodIn_app (goodIn_of _ (by decide +kernel)) ggX8_largestAnagramGroup_X1_anagrams
theorem dX8_largestAnagramGroup_0 : decode cX8_largestAnagramGroup 0 = .ok (.iconst 0, 1) := by decide +kernel
theorem dX8_largestAnagramGroup_1 : decode cX8_largestAnagramGroup 1 = .ok (.istore_n 1, 1) := by decide +kernel
theorem dX8_largestAnagramGroup_2 : decode cX8_largestAnagramGroup 2 = .ok (.iconst 0, 1) := by decide +kernel
theorem dX8_largestAnagramGroup_3 : decode cX8_largestAnagramGroup 3 = .ok (.istore_n 2, 1) := by decide +kernel
theorem dX8_largestAnagramGroup_4 : decode cX8_largestAnagramGroup 4 = .ok (.iload_n 2, 1) := by decide +kernel
theorem dX8_largestAnagramGroup_5 : decode cX8_largestAnagramGroup 5 = .ok (.aload_n 0, 1) := by decide +kernel
theorem dX8_largestAnagramGroup_6 : decode cX8_largestAnagramGroup 6 = .ok (.getfield 10, 3) := by decide +kernel
theorem dX8_largestAnagramGroup_9 : decode cX8_largestAnagramGroup 9 = .ok (.invokevirtual 59, 3) := by decide +kernel
theorem dX8_largestAnagramGroup_12 : decode cX8_largestAnagramGroup 12 = .ok (.invokevirtual 74, 3) := by decide +kernel
theorem dX8_largestAnagramGroup_15 : decode cX8_largestAnagramGroup 15 = .ok (.if_icmp .ge 35, 3) := by decide +kernel
theorem dX8_largestAnagramGroup_18 : decode cX8_largestAnagramGroup 18 = .ok (.iload_n 1, 1) := by decide +kernel
theorem dX8_largestAnagramGroup_19 : decode cX8_largestAnagramGroup 19 = .ok (.aload_n 0, 1) := by decide +kernel
theorem dX8_largestAnagramGroup_20 : decode cX8_largestAnagramGroup 20 = .ok (.getfield 10, 3) := by decide +kernel
theorem dX8_largestAnagramGroup_23 : decode cX8_largestAnagramGroup 23 = .ok (.aload_n 0, 1) := by decide +kernel
theorem dX8_largestAnagramGroup_24 : decode cX8_largestAnagramGroup 24 = .ok (.getfield 10, 3) := by decide +kernel
theorem dX8_largestAnagramGroup_27 : decode cX8_largestAnagramGroup 27 = .ok (.invokevirtual 59, 3) := by decide +kernel
theorem dX8_largestAnagramGroup_30 : decode cX8_largestAnagramGroup 30 = .ok (.iload_n 2, 1) := by decide +kernel
theorem dX8_largestAnagramGroup_31 : decode cX8_largestAnagramGroup 31 = .ok (.invokevirtual 94, 3) := by decide +kernel
theorem dX8_largestAnagramGroup_34 : decode cX8_largestAnagramGroup 34 = .ok (.invokevirtual 90, 3) := by decide +kernel
theorem dX8_largestAnagramGroup_37 : decode cX8_largestAnagramGroup 37 = .ok (.invokevirtual 74, 3) := by decide +kernel
theorem dX8_largestAnagramGroup_40 : decode cX8_largestAnagramGroup 40 = .ok (.invokestatic 98, 3) := by decide +kernel
theorem dX8_largestAnagramGroup_43 : decode cX8_largestAnagramGroup 43 = .ok (.istore_n 1, 1) := by decide +kernel
theorem dX8_largestAnagramGroup_44 : decode cX8_largestAnagramGroup 44 = .ok (.iinc 2 1, 3) := by decide +kernel
theorem dX8_largestAnagramGroup_47 : decode cX8_largestAnagramGroup 47 = .ok (.goto (-43), 3) := by decide +kernel
theorem dX8_largestAnagramGroup_50 : decode cX8_largestAnagramGroup 50 = .ok (.iload_n 1, 1) := by decide +kernel
theorem dX8_largestAnagramGroup_51 : decode cX8_largestAnagramGroup 51 = .ok (.ireturn, 1) := by decide +kernel
set_option maxRecDepth 20000 in
theorem ggX8_fittingCount_X8_requireWord : GoodIn wsX8_fittingCount wsX8_requireWord := goodIn_ca (goodIn_r _ [5, 6, 7, 8, 9, 10, 11, 12, 13, 14, 15, 16, 17, 18] (by decide +kernel) (by decide +kernel)) (goodIn_sub (fun _ h => List.mem_cons_of_mem _ (List.mem_append_right _ h)) (by decide +kernel))
set_option maxRecDepth 20000 in
theorem gX8_fittingCount_X8_requireWord : GoodIn wsX8_fittingCount (va_wsS RX8 44 yX8_requireWord wsX8_requireWord) := goodIn_app (goodIn_of _ (by decide +kernel)) ggX8_fittingCount_X8_requireWord
set_option maxRecDepth 20000 in
theorem ggX8_fittingCount_X1_fitting : GoodIn wsX8_fittingCount wsX1_fitting := goodIn_r _ [23, 24, 25, 26, 22, 27, 28, 29, 30, 31, 32, 33, 34, 35, 36, 37, 38, 39, 40, 41, 14, 10, 15, 42, 17, 18, 43, 44, 45, 46, 47, 48, 49, 50, 51, 52, 53, 54, 55, 56, 57, 58, 59, 60, 61, 62, 63, 64, 65, 66, 67, 68, 69, 70, 71, 72, 73, 74, 75, 82, 83, 84, 85, 86, 87] (by decide +kernel) (by decide +kernel)
set_option maxRecDepth 20000 in
theorem gX8_fittingCount_X1_fitting : GoodIn wsX8_fittingCount (wsV RX8 104 RX1 yX1_fitting wsX1_fitting) := goodIn_app (goodIn_of _ (by decide +kernel)) ggX8_fittingCount_X1_fitting
set_option maxRecDepth 20000 in
theorem ggX8_fittingCount_X6_size : GoodIn wsX8_fittingCount wsX6_size := goodIn_r _ [52, 48, 86, 87] (by decide +kernel) (by decide +kernel)
set_option maxRecDepth 20000 in
theorem gX8_fittingCount_X6_size : GoodIn wsX8_fittingCount (wsV RX8 74 RX6 yX6_size wsX6_size) := goodIn_app (goodIn_of _ (by decide +kernel)) ggX8_fittingCount_X6_size
theorem dX8_fittingCount_0 : decode cX8_fittingCount 0 = .ok (.lload_n 1, 1) := by decide +kernel
theorem dX8_fittingCount_1 : decode cX8_fittingCount 1 = .ok (.invokestatic 44, 3) := by decide +kernel
theorem dX8_fittingCount_4 : decode cX8_fittingCount 4 = .ok (.aload_n 0, 1) := by decide +kernel
theorem dX8_fittingCount_5 : decode cX8_fittingCount 5 = .ok (.getfield 10, 3) := by decide +kernel
theorem dX8_fittingCount_8 : decode cX8_fittingCount 8 = .ok (.lload_n 1, 1) := by decide +kernel
theorem dX8_fittingCount_9 : decode cX8_fittingCount 9 = .ok (.invokevirtual 104, 3) := by decide +kernel
theorem dX8_fittingCount_12 : decode cX8_fittingCount 12 = .ok (.invokevirtual 74, 3) := by decide +kernel
theorem dX8_fittingCount_15 : decode cX8_fittingCount 15 = .ok (.ireturn, 1) := by decide +kernel
set_option maxRecDepth 20000 in
theorem ggX8_fittingWord_X8_requireWord : GoodIn wsX8_fittingWord wsX8_requireWord := goodIn_ca (goodIn_r _ [5, 6, 7, 8, 9, 10, 11, 12, 13, 14, 15, 16, 17, 18] (by decide +kernel) (by decide +kernel)) (goodIn_sub (fun _ h => List.mem_cons_of_mem _ (List.mem_append_left _ (List.mem_append_right _ h))) (by decide +kernel))
set_option maxRecDepth 20000 in
theorem gX8_fittingWord_X8_requireWord : GoodIn wsX8_fittingWord (va_wsS RX8 44 yX8_requireWord wsX8_requireWord) := goodIn_app (goodIn_of _ (by decide +kernel)) ggX8_fittingWord_X8_requireWord
set_option maxRecDepth 20000 in
theorem ggX8_fittingWord_X1_fitting : GoodIn wsX8_fittingWord wsX1_fitting := goodIn_r _ [23, 24, 25, 26, 22, 27, 28, 29, 30, 31, 32, 33, 34, 35, 36, 37, 38, 39, 40, 41, 14, 10, 15, 42, 17, 18, 43, 44, 45, 46, 47, 48, 49, 50, 51, 52, 53, 54, 55, 56, 57, 58, 59, 60, 61, 62, 63, 64, 65, 66, 67, 68, 69, 70, 71, 72, 73, 74, 75, 88, 89, 90, 91, 92, 93] (by decide +kernel) (by decide +kernel)
set_option maxRecDepth 20000 in
theorem gX8_fittingWord_X1_fitting : GoodIn wsX8_fittingWord (wsV RX8 104 RX1 yX1_fitting wsX1_fitting) := goodIn_app (goodIn_of _ (by decide +kernel)) ggX8_fittingWord_X1_fitting
set_option maxRecDepth 20000 in
theorem ggX8_fittingWord_X8_requireWordOf : GoodIn wsX8_fittingWord wsX8_requireWordOf := goodIn_ca (goodIn_r _ [78, 79, 80, 81, 50, 51, 46, 52, 48, 82, 54, 55, 56, 57, 92, 93] (by decide +kernel) (by decide +kernel)) (goodIn_sub (fun _ h => List.mem_cons_of_mem _ (List.mem_append_right _ h)) (by decide +kernel))
set_option maxRecDepth 20000 in
theorem gX8_fittingWord_X8_requireWordOf : GoodIn wsX8_fittingWord (va_wsS RX8 86 yX8_requireWordOf wsX8_requireWordOf) := goodIn_app (goodIn_of _ (by decide +kernel)) ggX8_fittingWord_X8_requireWordOf
theorem dX8_fittingWord_0 : decode cX8_fittingWord 0 = .ok (.lload_n 1, 1) := by decide +kernel
theorem dX8_fittingWord_1 : decode cX8_fittingWord 1 = .ok (.invokestatic 44, 3) := by decide +kernel
theorem dX8_fittingWord_4 : decode cX8_fittingWord 4 = .ok (.aload_n 0, 1) := by decide +kernel
theorem dX8_fittingWord_5 : decode cX8_fittingWord 5 = .ok (.getfield 10, 3) := by decide +kernel
theorem dX8_fittingWord_8 : decode cX8_fittingWord 8 = .ok (.lload_n 1, 1) := by decide +kernel
theorem dX8_fittingWord_9 : decode cX8_fittingWord 9 = .ok (.invokevirtual 104, 3) := by decide +kernel
theorem dX8_fittingWord_12 : decode cX8_fittingWord 12 = .ok (.iload_n 3, 1) := by decide +kernel
theorem dX8_fittingWord_13 : decode cX8_fittingWord 13 = .ok (.invokestatic 86, 3) := by decide +kernel
theorem dX8_fittingWord_16 : decode cX8_fittingWord 16 = .ok (.lreturn, 1) := by decide +kernel
set_option maxRecDepth 20000 in
theorem ggX8_cut_X8_requireWord : GoodIn wsX8_cut wsX8_requireWord := goodIn_ca (goodIn_r _ [9, 10, 11, 12, 13, 14, 15, 16, 17, 18, 19, 20, 21, 22] (by decide +kernel) (by decide +kernel)) (goodIn_sub (fun _ h => List.mem_cons_of_mem _ (List.mem_append_left _ (List.mem_append_right _ h))) (by decide +kernel))
set_option maxRecDepth 20000 in
theorem gX8_cut_X8_requireWord : GoodIn wsX8_cut (va_wsS RX8 44 yX8_requireWord wsX8_requireWord) := goodIn_app (goodIn_of _ (by decide +kernel)) ggX8_cut_X8_requireWord
set_option maxRecDepth 20000 in
theorem ggX8_cut_X8_requireRange : GoodIn wsX8_cut wsX8_requireRange := goodIn_ca (goodIn_r _ [25, 10, 11] (by decide +kernel) (by decide +kernel)) (goodIn_sub (fun _ h => List.mem_cons_of_mem _ (List.mem_append_left _ (List.mem_append_right _ h))) (by decide +kernel))
set_option maxRecDepth 20000 in
theorem gX8_cut_X8_requireRange : GoodIn wsX8_cut (va_wsS RX8 107 yX8_requireRange wsX8_requireRange) := goodIn_app (goodIn_of _ (by decide +kernel)) ggX8_cut_X8_requireRange
set_option maxRecDepth 20000 in
theorem ggX8_cut_X2_clear : GoodIn wsX8_cut wsX2_clear := goodIn_r _ [30, 31, 74] (by decide +kernel) (by decide +kernel)
set_option maxRecDepth 20000 in
theorem gX8_cut_X2_clear : GoodIn wsX8_cut (wsV RX8 111 RX2 yX2_clear wsX2_clear) := goodIn_app (goodIn_of _ (by decide +kernel)) ggX8_cut_X2_clear
set_option maxRecDepth 20000 in
theorem ggX8_cut_X2_put : GoodIn wsX8_cut wsX2_put := goodIn_r _ [35, 31, 36, 18, 14, 19, 37, 21, 22, 74] (by decide +kernel) (by decide +kernel)
set_option maxRecDepth 20000 in
theorem gX8_cut_X2_put : GoodIn wsX8_cut (wsV RX8 114 RX2 yX2_put wsX2_put) := goodIn_app (goodIn_of _ (by decide +kernel)) ggX8_cut_X2_put
set_option maxRecDepth 20000 in
theorem ggX8_cut_X8_requireRoom : GoodIn wsX8_cut wsX8_requireRoom := goodIn_ca (goodIn_r _ [41, 42, 43, 2, 44, 45, 46, 47, 48, 49, 50, 51, 52, 29, 53, 31, 62, 63, 64, 65, 66, 67, 68, 69, 74] (by decide +kernel) (by decide +kernel)) (goodIn_sub (fun _ h => List.mem_cons_of_mem _ (List.mem_append_right _ h)) (by decide +kernel))
set_option maxRecDepth 20000 in
theorem gX8_cut_X8_requireRoom : GoodIn wsX8_cut (wsV RX8 118 RX8 yX8_requireRoom wsX8_requireRoom) := goodIn_app (goodIn_of _ (by decide +kernel)) ggX8_cut_X8_requireRoom
set_option maxRecDepth 20000 in
theorem ggX8_cut_X2_putAll : GoodIn wsX8_cut wsX2_putAll := goodIn_r _ [57, 31, 74] (by decide +kernel) (by decide +kernel)
set_option maxRecDepth 20000 in
theorem gX8_cut_X2_putAll : GoodIn wsX8_cut (wsV RX8 125 RX2 yX2_putAll wsX2_putAll) := goodIn_app (goodIn_of _ (by decide +kernel)) ggX8_cut_X2_putAll
set_option maxRecDepth 20000 in
theorem ggX8_cut_X2_total : GoodIn wsX8_cut wsX2_total := goodIn_r _ [61, 31, 74] (by decide +kernel) (by decide +kernel)
set_option maxRecDepth 20000 in
theorem gX8_cut_X2_total : GoodIn wsX8_cut (wsV RX8 131 RX2 yX2_total wsX2_total) := goodIn_app (goodIn_of _ (by decide +kernel)) ggX8_cut_X2_total
theorem dX8_cut_0 : decode cX8_cut 0 = .ok (.lload_n 1, 1) := by decide +kernel
theorem dX8_cut_1 : decode cX8_cut 1 = .ok (.invokestatic 44, 3) := by decide +kernel
theorem dX8_cut_4 : decode cX8_cut 4 = .ok (.iload_n 3, 1) := by decide +kernel
theorem dX8_cut_5 : decode cX8_cut 5 = .ok (.iconst 1, 1) := by decide +kernel
theorem dX8_cut_6 : decode cX8_cut 6 = .ok (.bipush 50, 2) := by decide +kernel
theorem dX8_cut_8 : decode cX8_cut 8 = .ok (.invokestatic 107, 3) := by decide +kernel
theorem dX8_cut_11 : decode cX8_cut 11 = .ok (.aload_n 0, 1) := by decide +kernel
theorem dX8_cut_12 : decode cX8_cut 12 = .ok (.getfield 40, 3) := by decide +kernel
theorem dX8_cut_15 : decode cX8_cut 15 = .ok (.invokevirtual 111, 3) := by decide +kernel
theorem dX8_cut_18 : decode cX8_cut 18 = .ok (.aload_n 0, 1) := by decide +kernel
theorem dX8_cut_19 : decode cX8_cut 19 = .ok (.getfield 40, 3) := by decide +kernel
theorem dX8_cut_22 : decode cX8_cut 22 = .ok (.lload_n 1, 1) := by decide +kernel
theorem dX8_cut_23 : decode cX8_cut 23 = .ok (.iload_n 3, 1) := by decide +kernel
theorem dX8_cut_24 : decode cX8_cut 24 = .ok (.invokevirtual 114, 3) := by decide +kernel
theorem dX8_cut_27 : decode cX8_cut 27 = .ok (.aload_n 0, 1) := by decide +kernel
theorem dX8_cut_28 : decode cX8_cut 28 = .ok (.aload_n 0, 1) := by decide +kernel
theorem dX8_cut_29 : decode cX8_cut 29 = .ok (.getfield 40, 3) := by decide +kernel
theorem dX8_cut_32 : decode cX8_cut 32 = .ok (.invokevirtual 118, 3) := by decide +kernel
theorem dX8_cut_35 : decode cX8_cut 35 = .ok (.aload_n 0, 1) := by decide +kernel
theorem dX8_cut_36 : decode cX8_cut 36 = .ok (.getfield 19, 3) := by decide +kernel
theorem dX8_cut_39 : decode cX8_cut 39 = .ok (.getfield 122, 3) := by decide +kernel
theorem dX8_cut_42 : decode cX8_cut 42 = .ok (.aload_n 0, 1) := by decide +kernel
theorem dX8_cut_43 : decode cX8_cut 43 = .ok (.getfield 40, 3) := by decide +kernel
theorem dX8_cut_46 : decode cX8_cut 46 = .ok (.invokevirtual 125, 3) := by decide +kernel
theorem dX8_cut_49 : decode cX8_cut 49 = .ok (.aload_n 0, 1) := by decide +kernel
theorem dX8_cut_50 : decode cX8_cut 50 = .ok (.getfield 26, 3) := by decide +kernel
theorem dX8_cut_53 : decode cX8_cut 53 = .ok (.getfield 128, 3) := by decide +kernel
theorem dX8_cut_56 : decode cX8_cut 56 = .ok (.aload_n 0, 1) := by decide +kernel
theorem dX8_cut_57 : decode cX8_cut 57 = .ok (.getfield 40, 3) := by decide +kernel
theorem dX8_cut_60 : decode cX8_cut 60 = .ok (.invokevirtual 125, 3) := by decide +kernel
theorem dX8_cut_63 : decode cX8_cut 63 = .ok (.aload_n 0, 1) := by decide +kernel
theorem dX8_cut_64 : decode cX8_cut 64 = .ok (.getfield 19, 3) := by decide +kernel
theorem dX8_cut_67 : decode cX8_cut 67 = .ok (.getfield 122, 3) := by decide +kernel
theorem dX8_cut_70 : decode cX8_cut 70 = .ok (.invokevirtual 131, 3) := by decide +kernel
theorem dX8_cut_73 : decode cX8_cut 73 = .ok (.ireturn, 1) := by decide +kernel
set_option maxRecDepth 20000 in
theorem ggX8_stockOf_X8_requireLetter : GoodIn wsX8_stockOf wsX8_requireLetter := goodIn_ca (goodIn_r _ [6, 7, 8, 5, 9, 10, 11] (by decide +kernel) (by decide +kernel)) (goodIn_sub (fun _ h => List.mem_cons_of_mem _ (List.mem_append_right _ h)) (by decide +kernel))
set_option maxRecDepth 20000 in
theorem gX8_stockOf_X8_requireLetter : GoodIn wsX8_stockOf (va_wsS RX8 134 yX8_requireLetter wsX8_requireLetter) := goodIn_app (goodIn_of _ (by decide +kernel)) ggX8_stockOf_X8_requireLetter
set_option maxRecDepth 20000 in
theorem ggX8_stockOf_X2_count : GoodIn wsX8_stockOf wsX2_count := goodIn_r _ [16, 17, 26] (by decide +kernel) (by decide +kernel)
set_option maxRecDepth 20000 in
theorem gX8_stockOf_X2_count : GoodIn wsX8_stockOf (wsV RX8 138 RX2 yX2_count wsX2_count) := goodIn_app (goodIn_of _ (by decide +kernel)) ggX8_stockOf_X2_count
theorem dX8_stockOf_0 : decode cX8_stockOf 0 = .ok (.iload_n 1, 1) := by decide +kernel
theorem dX8_stockOf_1 : decode cX8_stockOf 1 = .ok (.invokestatic 134, 3) := by decide +kernel
theorem dX8_stockOf_4 : decode cX8_stockOf 4 = .ok (.aload_n 0, 1) := by decide +kernel
theorem dX8_stockOf_5 : decode cX8_stockOf 5 = .ok (.getfield 19, 3) := by decide +kernel
theorem dX8_stockOf_8 : decode cX8_stockOf 8 = .ok (.getfield 122, 3) := by decide +kernel
theorem dX8_stockOf_11 : decode cX8_stockOf 11 = .ok (.iload_n 1, 1) := by decide +kernel
theorem dX8_stockOf_12 : decode cX8_stockOf 12 = .ok (.invokevirtual 138, 3) := by decide +kernel
theorem dX8_stockOf_15 : decode cX8_stockOf 15 = .ok (.ireturn, 1) := by decide +kernel
set_option maxRecDepth 20000 in
theorem ggX8_totalStock_X2_total : GoodIn wsX8_totalStock wsX2_total := goodIn_r _ [7, 8, 17] (by decide +kernel) (by decide +kernel)
set_option maxRecDepth 20000 in
theorem gX8_totalStock_X2_total : GoodIn wsX8_totalStock (wsV RX8 131 RX2 yX2_total wsX2_total) := goodIn_app (goodIn_of _ (by decide +kernel)) ggX8_totalStock_X2_total
theorem dX8_totalStock_0 : decode cX8_totalStock 0 = .ok (.aload_n 0, 1) := by decide +kernel
theorem dX8_totalStock_1 : decode cX8_totalStock 1 = .ok (.getfield 19, 3) := by decide +kernel
theorem dX8_totalStock_4 : decode cX8_totalStock 4 = .ok (.getfield 122, 3) := by decide +kernel
theorem dX8_totalStock_7 : decode cX8_totalStock 7 = .ok (.invokevirtual 131, 3) := by decide +kernel
theorem dX8_totalStock_10 : decode cX8_totalStock 10 = .ok (.ireturn, 1) := by decide +kernel
set_option maxRecDepth 20000 in
theorem ggX8_setBasePrice_X8_requireLetter : GoodIn wsX8_setBasePrice wsX8_requireLetter := goodIn_ca (goodIn_r _ [5, 6, 7, 4, 8, 9, 10] (by decide +kernel) (by decide +kernel)) (goodIn_sub (fun _ h => List.mem_cons_of_mem _ (List.mem_append_right _ h)) (by decide +kernel))
set_option maxRecDepth 20000 in
theorem gX8_setBasePrice_X8_requireLetter : GoodIn wsX8_setBasePrice (va_wsS RX8 134 yX8_requireLetter wsX8_requireLetter) := goodIn_app (goodIn_of _ (by decide +kernel)) ggX8_setBasePrice_X8_requireLetter
set_option maxRecDepth 20000 in
theorem ggX8_setBasePrice_X8_requireRange : GoodIn wsX8_setBasePrice wsX8_requireRange := goodIn_ca (goodIn_r _ [8, 9, 10] (by decide +kernel) (by decide +kernel)) (goodIn_sub (fun _ h => List.mem_cons_of_mem _ (List.mem_append_right _ h)) (by decide +kernel))
set_option maxRecDepth 20000 in
theorem gX8_setBasePrice_X8_requireRange : GoodIn wsX8_setBasePrice (va_wsS RX8 107 yX8_requireRange wsX8_requireRange) := goodIn_app (goodIn_of _ (by decide +kernel)) ggX8_setBasePrice_X8_requireRange
set_option maxRecDepth 20000 in
theorem ggX8_setBasePrice_X5_changeBasePrice : GoodIn wsX8_setBasePrice wsX5_changeBasePrice := goodIn_r _ [15, 16, 17, 18, 19, 14, 20, 26, 27, 28] (by decide +kernel) (by decide +kernel)
set_option maxRecDepth 20000 in
theorem gX8_setBasePrice_X5_changeBasePrice : GoodIn wsX8_setBasePrice (wsV RX8 142 RX5 yX5_changeBasePrice wsX5_changeBasePrice) := goodIn_app (goodIn_of _ (by decide +kernel)) ggX8_setBasePrice_X5_changeBasePrice
theorem dX8_setBasePrice_0 : decode cX8_setBasePrice 0 = .ok (.iload_n 1, 1) := by decide +kernel
theorem dX8_setBasePrice_1 : decode cX8_setBasePrice 1 = .ok (.invokestatic 134, 3) := by decide +kernel
theorem dX8_setBasePrice_4 : decode cX8_setBasePrice 4 = .ok (.iload_n 2, 1) := by decide +kernel
theorem dX8_setBasePrice_5 : decode cX8_setBasePrice 5 = .ok (.iconst 1, 1) := by decide +kernel
theorem dX8_setBasePrice_6 : decode cX8_setBasePrice 6 = .ok (.sipush 999, 3) := by decide +kernel
theorem dX8_setBasePrice_9 : decode cX8_setBasePrice 9 = .ok (.invokestatic 107, 3) := by decide +kernel
theorem dX8_setBasePrice_12 : decode cX8_setBasePrice 12 = .ok (.aload_n 0, 1) := by decide +kernel
theorem dX8_setBasePrice_13 : decode cX8_setBasePrice 13 = .ok (.getfield 19, 3) := by decide +kernel
theorem dX8_setBasePrice_16 : decode cX8_setBasePrice 16 = .ok (.iload_n 1, 1) := by decide +kernel
theorem dX8_setBasePrice_17 : decode cX8_setBasePrice 17 = .ok (.iload_n 2, 1) := by decide +kernel
theorem dX8_setBasePrice_18 : decode cX8_setBasePrice 18 = .ok (.invokevirtual 142, 3) := by decide +kernel
theorem dX8_setBasePrice_21 : decode cX8_setBasePrice 21 = .ok (.ireturn, 1) := by decide +kernel
set_option maxRecDepth 20000 in
theorem ggX8_basePriceOf_X8_requireLetter : GoodIn wsX8_basePriceOf wsX8_requireLetter := goodIn_ca (goodIn_r _ [5, 6, 7, 4, 8, 9, 10] (by decide +kernel) (by decide +kernel)) (goodIn_sub (fun _ h => List.mem_cons_of_mem _ (List.mem_append_right _ h)) (by decide +kernel))
set_option maxRecDepth 20000 in
theorem gX8_basePriceOf_X8_requireLetter : GoodIn wsX8_basePriceOf (va_wsS RX8 134 yX8_requireLetter wsX8_requireLetter) := goodIn_app (goodIn_of _ (by decide +kernel)) ggX8_basePriceOf_X8_requireLetter
set_option maxRecDepth 20000 in
theorem ggX8_basePriceOf_X5_basePrice : GoodIn wsX8_basePriceOf wsX5_basePrice := goodIn_r _ [15, 16, 22, 23, 24] (by decide +kernel) (by decide +kernel)
set_option maxRecDepth 20000 in
theorem gX8_basePriceOf_X5_basePrice : GoodIn wsX8_basePriceOf (wsV RX8 145 RX5 yX5_basePrice wsX5_basePrice) := goodIn_app (goodIn_of _ (by decide +kernel)) ggX8_basePriceOf_X5_basePrice
theorem dX8_basePriceOf_0 : decode cX8_basePriceOf 0 = .ok (.iload_n 1, 1) := by decide +kernel
theorem dX8_basePriceOf_1 : decode cX8_basePriceOf 1 = .ok (.invokestatic 134, 3) := by decide +kernel
theorem dX8_basePriceOf_4 : decode cX8_basePriceOf 4 = .ok (.aload_n 0, 1) := by decide +kernel
theorem dX8_basePriceOf_5 : decode cX8_basePriceOf 5 = .ok (.getfield 19, 3) := by decide +kernel
theorem dX8_basePriceOf_8 : decode cX8_basePriceOf 8 = .ok (.iload_n 1, 1) := by decide +kernel
theorem dX8_basePriceOf_9 : decode cX8_basePriceOf 9 = .ok (.invokevirtual 145, 3) := by decide +kernel
theorem dX8_basePriceOf_12 : decode cX8_basePriceOf 12 = .ok (.ireturn, 1) := by decide +kernel
set_option maxRecDepth 20000 in
theorem ggX8_presentPriceOf_X8_requireLetter : GoodIn wsX8_presentPriceOf wsX8_requireLetter := goodIn_ca (goodIn_r _ [5, 6, 7, 4, 8, 9, 10] (by decide +kernel) (by decide +kernel)) (goodIn_sub (fun _ h => List.mem_cons_of_mem _ (List.mem_append_right _ h)) (by decide +kernel))
set_option maxRecDepth 20000 in
theorem gX8_presentPriceOf_X8_requireLetter : GoodIn wsX8_presentPriceOf (va_wsS RX8 134 yX8_requireLetter wsX8_requireLetter) := goodIn_app (goodIn_of _ (by decide +kernel)) ggX8_presentPriceOf_X8_requireLetter
set_option maxRecDepth 20000 in
theorem ggX8_presentPriceOf_X5_presentPrice : GoodIn wsX8_presentPriceOf wsX5_presentPrice := goodIn_r _ [15, 16, 17, 18, 19, 20, 21, 22, 23, 14, 24, 25, 26, 27, 28, 29, 30, 31, 37, 38, 39, 40] (by decide +kernel) (by decide +kernel)
set_option maxRecDepth 20000 in
theorem gX8_presentPriceOf_X5_presentPrice : GoodIn wsX8_presentPriceOf (wsV RX8 148 RX5 yX5_presentPrice wsX5_presentPrice) := goodIn_app (goodIn_of _ (by decide +kernel)) ggX8_presentPriceOf_X5_presentPrice
theorem dX8_presentPriceOf_0 : decode cX8_presentPriceOf 0 = .ok (.iload_n 1, 1) := by decide +kernel
theorem dX8_presentPriceOf_1 : decode cX8_presentPriceOf 1 = .ok (.invokestatic 134, 3) := by decide +kernel
theorem dX8_presentPriceOf_4 : decode cX8_presentPriceOf 4 = .ok (.aload_n 0, 1) := by decide +kernel
theorem dX8_presentPriceOf_5 : decode cX8_presentPriceOf 5 = .ok (.getfield 19, 3) := by decide +kernel
theorem dX8_presentPriceOf_8 : decode cX8_presentPriceOf 8 = .ok (.iload_n 1, 1) := by decide +kernel
theorem dX8_presentPriceOf_9 : decode cX8_presentPriceOf 9 = .ok (.invokevirtual 148, 3) := by decide +kernel
theorem dX8_presentPriceOf_12 : decode cX8_presentPriceOf 12 = .ok (.ireturn, 1) := by decide +kernel
set_option maxRecDepth 20000 in
theorem ggX8_weightOf_X8_requireWord : GoodIn wsX8_weightOf wsX8_requireWord := goodIn_ca (goodIn_r _ [5, 6, 7, 8, 9, 10, 11, 12, 13, 14, 15, 16, 17, 18] (by decide +kernel) (by decide +kernel)) (goodIn_sub (fun _ h => List.mem_cons_of_mem _ (List.mem_append_right _ h)) (by decide +kernel))
set_option maxRecDepth 20000 in
theorem gX8_weightOf_X8_requireWord : GoodIn wsX8_weightOf (va_wsS RX8 44 yX8_requireWord wsX8_requireWord) := goodIn_app (goodIn_of _ (by decide +kernel)) ggX8_weightOf_X8_requireWord
set_option maxRecDepth 20000 in
theorem ggX8_weightOf_X5_ounces : GoodIn wsX8_weightOf wsX5_ounces := goodIn_r _ [23, 24, 25, 14, 10, 15, 26, 17, 18, 32, 33, 34] (by decide +kernel) (by decide +kernel)
set_option maxRecDepth 20000 in
theorem gX8_weightOf_X5_ounces : GoodIn wsX8_weightOf (wsV RX8 151 RX5 yX5_ounces wsX5_ounces) := goodIn_app (goodIn_of _ (by decide +kernel)) ggX8_weightOf_X5_ounces
theorem dX8_weightOf_0 : decode cX8_weightOf 0 = .ok (.lload_n 1, 1) := by decide +kernel
theorem dX8_weightOf_1 : decode cX8_weightOf 1 = .ok (.invokestatic 44, 3) := by decide +kernel
theorem dX8_weightOf_4 : decode cX8_weightOf 4 = .ok (.aload_n 0, 1) := by decide +kernel
theorem dX8_weightOf_5 : decode cX8_weightOf 5 = .ok (.getfield 19, 3) := by decide +kernel
theorem dX8_weightOf_8 : decode cX8_weightOf 8 = .ok (.lload_n 1, 1) := by decide +kernel
theorem dX8_weightOf_9 : decode cX8_weightOf 9 = .ok (.invokevirtual 151, 3) := by decide +kernel
theorem dX8_weightOf_12 : decode cX8_weightOf 12 = .ok (.ireturn, 1) := by decide +kernel
set_option maxRecDepth 20000 in
theorem ggX8_costOf_X8_requireWord : GoodIn wsX8_costOf wsX8_requireWord := goodIn_ca (goodIn_r _ [8, 9, 10, 11, 12, 13, 14, 15, 16, 17, 18, 19, 20, 21] (by decide +kernel) (by decide +kernel)) (goodIn_sub (fun _ h => List.mem_cons_of_mem _ (List.mem_append_right _ h)) (by decide +kernel))
set_option maxRecDepth 20000 in
theorem gX8_costOf_X8_requireWord : GoodIn wsX8_costOf (va_wsS RX8 44 yX8_requireWord wsX8_requireWord) := goodIn_app (goodIn_of _ (by decide +kernel)) ggX8_costOf_X8_requireWord
set_option maxRecDepth 20000 in
theorem ggX8_costOf_X2_holds : GoodIn wsX8_costOf wsX2_holds := goodIn_r _ [26, 27, 28, 29, 25, 30, 31, 32, 17, 13, 18, 33, 20, 21, 34, 35, 36, 37, 77] (by decide +kernel) (by decide +kernel)
set_option maxRecDepth 20000 in
theorem gX8_costOf_X2_holds : GoodIn wsX8_costOf (wsV RX8 155 RX2 yX2_holds wsX2_holds) := goodIn_app (goodIn_of _ (by decide +kernel)) ggX8_costOf_X2_holds
set_option maxRecDepth 20000 in
theorem ggX8_costOf_X5_weigh : GoodIn wsX8_costOf wsX5_weigh := goodIn_r _ [42, 43, 44, 45, 17, 13, 18, 46, 20, 21, 47, 48, 49, 41, 50, 51, 52, 53, 54, 55, 56, 57, 58, 59, 60, 61, 62, 25, 63, 31, 64, 65, 66, 67, 68, 35, 36, 37, 32, 33, 74, 75, 76, 77] (by decide +kernel) (by decide +kernel)
set_option maxRecDepth 20000 in
theorem gX8_costOf_X5_weigh : GoodIn wsX8_costOf (wsV RX8 160 RX5 yX5_weigh wsX5_weigh) := goodIn_app (goodIn_of _ (by decide +kernel)) ggX8_costOf_X5_weigh
theorem dX8_costOf_0 : decode cX8_costOf 0 = .ok (.lload_n 1, 1) := by decide +kernel
theorem dX8_costOf_1 : decode cX8_costOf 1 = .ok (.invokestatic 44, 3) := by decide +kernel
theorem dX8_costOf_4 : decode cX8_costOf 4 = .ok (.aload_n 0, 1) := by decide +kernel
theorem dX8_costOf_5 : decode cX8_costOf 5 = .ok (.getfield 19, 3) := by decide +kernel
theorem dX8_costOf_8 : decode cX8_costOf 8 = .ok (.getfield 122, 3) := by decide +kernel
theorem dX8_costOf_11 : decode cX8_costOf 11 = .ok (.lload_n 1, 1) := by decide +kernel
theorem dX8_costOf_12 : decode cX8_costOf 12 = .ok (.invokevirtual 155, 3) := by decide +kernel
theorem dX8_costOf_15 : decode cX8_costOf 15 = .ok (.ifCond .ne 13, 3) := by decide +kernel
theorem dX8_costOf_18 : decode cX8_costOf 18 = .ok (.new 78, 3) := by decide +kernel
theorem dX8_costOf_21 : decode cX8_costOf 21 = .ok (.dup, 1) := by decide +kernel
theorem dX8_costOf_22 : decode cX8_costOf 22 = .ok (.ldc 158, 2) := by decide +kernel
theorem dX8_costOf_24 : decode cX8_costOf 24 = .ok (.invokespecial 82, 3) := by decide +kernel
theorem dX8_costOf_27 : decode cX8_costOf 27 = .ok (.athrow, 1) := by decide +kernel
theorem dX8_costOf_28 : decode cX8_costOf 28 = .ok (.aload_n 0, 1) := by decide +kernel
theorem dX8_costOf_29 : decode cX8_costOf 29 = .ok (.getfield 19, 3) := by decide +kernel
theorem dX8_costOf_32 : decode cX8_costOf 32 = .ok (.lload_n 1, 1) := by decide +kernel
theorem dX8_costOf_33 : decode cX8_costOf 33 = .ok (.invokevirtual 160, 3) := by decide +kernel
theorem dX8_costOf_36 : decode cX8_costOf 36 = .ok (.ireturn, 1) := by decide +kernel
set_option maxRecDepth 20000 in
theorem ggX8_missingLetter_X8_requireWord : GoodIn wsX8_missingLetter wsX8_requireWord := goodIn_ca (goodIn_r _ [6, 7, 8, 9, 10, 11, 12, 13, 14, 15, 16, 17, 18, 19] (by decide +kernel) (by decide +kernel)) (goodIn_sub (fun _ h => List.mem_cons_of_mem _ (List.mem_append_right _ h)) (by decide +kernel))
set_option maxRecDepth 20000 in
theorem gX8_missingLetter_X8_requireWord : GoodIn wsX8_missingLetter (va_wsS RX8 44 yX8_requireWord wsX8_requireWord) := goodIn_app (goodIn_of _ (by decide +kernel)) ggX8_missingLetter_X8_requireWord
set_option maxRecDepth 20000 in
theorem ggX8_missingLetter_X2_lacking : GoodIn wsX8_missingLetter wsX2_lacking := goodIn_r _ [24, 25, 26, 27, 11, 28, 14, 15, 16, 17, 18, 19, 37] (by decide +kernel) (by decide +kernel)
set_option maxRecDepth 20000 in
theorem gX8_missingLetter_X2_lacking : GoodIn wsX8_missingLetter (wsV RX8 163 RX2 yX2_lacking wsX2_lacking) := goodIn_app (goodIn_of _ (by decide +kernel)) ggX8_missingLetter_X2_lacking
theorem dX8_missingLetter_0 : decode cX8_missingLetter 0 = .ok (.lload_n 1, 1) := by decide +kernel
theorem dX8_missingLetter_1 : decode cX8_missingLetter 1 = .ok (.invokestatic 44, 3) := by decide +kernel
theorem dX8_missingLetter_4 : decode cX8_missingLetter 4 = .ok (.aload_n 0, 1) := by decide +kernel
theorem dX8_missingLetter_5 : decode cX8_missingLetter 5 = .ok (.getfield 19, 3) := by decide +kernel
theorem dX8_missingLetter_8 : decode cX8_missingLetter 8 = .ok (.getfield 122, 3) := by decide +kernel
theorem dX8_missingLetter_11 : decode cX8_missingLetter 11 = .ok (.lload_n 1, 1) := by decide +kernel
theorem dX8_missingLetter_12 : decode cX8_missingLetter 12 = .ok (.invokevirtual 163, 3) := by decide +kernel
theorem dX8_missingLetter_15 : decode cX8_missingLetter 15 = .ok (.ireturn, 1) := by decide +kernel
set_option maxRecDepth 20000 in
theorem ggX8_refusalOf_X8_requireWord : GoodIn wsX8_refusalOf wsX8_requireWord := goodIn_ca (goodIn_r _ [4, 5, 6, 7, 8, 9, 10, 11, 12, 13, 14, 15, 16, 17] (by decide +kernel) (by decide +kernel)) (goodIn_sub (fun _ h => List.mem_cons_of_mem _ (List.mem_append_right _ h)) (by decide +kernel))
set_option maxRecDepth 20000 in
theorem gX8_refusalOf_X8_requireWord : GoodIn wsX8_refusalOf (va_wsS RX8 44 yX8_requireWord wsX8_requireWord) := goodIn_app (goodIn_of _ (by decide +kernel)) ggX8_refusalOf_X8_requireWord
set_option maxRecDepth 20000 in
theorem ggX8_refusalOf_X8_requireBudget : GoodIn wsX8_refusalOf wsX8_requireBudget := goodIn_ca (goodIn_r _ [20, 21, 22, 23, 3, 24, 5, 6] (by decide +kernel) (by decide +kernel)) (goodIn_sub (fun _ h => List.mem_cons_of_mem _ (List.mem_append_right _ h)) (by decide +kernel))
set_option maxRecDepth 20000 in
theorem gX8_refusalOf_X8_requireBudget : GoodIn wsX8_refusalOf (va_wsS RX8 166 yX8_requireBudget wsX8_requireBudget) := goodIn_app (goodIn_of _ (by decide +kernel)) ggX8_refusalOf_X8_requireBudget
set_option maxRecDepth 20000 in
theorem ggX8_refusalOf_X8_reasonAgainst : GoodIn wsX8_refusalOf wsX8_reasonAgainst := goodIn_r _ [28, 29, 30, 31, 32, 33, 34, 35, 36, 37, 38, 39, 40, 41, 42, 43, 9, 44, 12, 13, 14, 45, 46, 47, 48, 49, 50, 51, 52, 53, 54, 55, 56, 57, 58, 59, 60, 61, 62, 63, 64, 65, 66, 67, 16, 17, 68, 69, 70, 71, 72, 73, 74, 75, 76, 77, 78, 79, 80, 81, 82, 83, 84, 85, 86, 87, 88, 89, 90, 91, 92, 93, 94, 95, 96, 97, 98, 99, 100, 101, 102, 103, 104, 105, 106, 107, 108, 109, 110, 111, 112, 113, 114, 115, 116] (by decide +kernel) (by decide +kernel)
set_option maxRecDepth 20000 in
theorem gX8_refusalOf_X8_reasonAgainst : GoodIn wsX8_refusalOf (wsV RX8 169 RX8 yX8_reasonAgainst wsX8_reasonAgainst) := goodIn_app (goodIn_of _ (by decide +kernel)) ggX8_refusalOf_X8_reasonAgainst
theorem dX8_refusalOf_0 : decode cX8_refusalOf 0 = .ok (.lload_n 1, 1) := by decide +kernel
theorem dX8_refusalOf_1 : decode cX8_refusalOf 1 = .ok (.invokestatic 44, 3) := by decide +kernel
theorem dX8_refusalOf_4 : decode cX8_refusalOf 4 = .ok (.iload_n 3, 1) := by decide +kernel
theorem dX8_refusalOf_5 : decode cX8_refusalOf 5 = .ok (.invokestatic 166, 3) := by decide +kernel
theorem dX8_refusalOf_8 : decode cX8_refusalOf 8 = .ok (.aload_n 0, 1) := by decide +kernel
theorem dX8_refusalOf_9 : decode cX8_refusalOf 9 = .ok (.lload_n 1, 1) := by decide +kernel
theorem dX8_refusalOf_10 : decode cX8_refusalOf 10 = .ok (.iload_n 3, 1) := by decide +kernel
theorem dX8_refusalOf_11 : decode cX8_refusalOf 11 = .ok (.invokevirtual 169, 3) := by decide +kernel
theorem dX8_refusalOf_14 : decode cX8_refusalOf 14 = .ok (.ireturn, 1) := by decide +kernel
set_option maxRecDepth 20000 in
theorem ggX8_sell_X8_requireWord : GoodIn wsX8_sell wsX8_requireWord := goodIn_ca (goodIn_r _ [6, 7, 8, 9, 10, 11, 12, 13, 14, 15, 16, 17, 18, 19] (by decide +kernel) (by decide +kernel)) (goodIn_sub (fun _ h => List.mem_cons_of_mem _ (List.mem_append_right _ h)) (by decide +kernel))
set_option maxRecDepth 20000 in
theorem gX8_sell_X8_requireWord : GoodIn wsX8_sell (va_wsS RX8 44 yX8_requireWord wsX8_requireWord) := goodIn_app (goodIn_of _ (by decide +kernel)) ggX8_sell_X8_requireWord
set_option maxRecDepth 20000 in
theorem ggX8_sell_X8_requireBudget : GoodIn wsX8_sell wsX8_requireBudget := goodIn_ca (goodIn_r _ [22, 23, 24, 25, 5, 26, 7, 8] (by decide +kernel) (by decide +kernel)) (goodIn_sub (fun _ h => List.mem_cons_of_mem _ (List.mem_append_right _ h)) (by decide +kernel))
set_option maxRecDepth 20000 in
theorem gX8_sell_X8_requireBudget : GoodIn wsX8_sell (va_wsS RX8 166 yX8_requireBudget wsX8_requireBudget) := goodIn_app (goodIn_of _ (by decide +kernel)) ggX8_sell_X8_requireBudget
set_option maxRecDepth 20000 in
theorem ggX8_sell_X8_reasonAgainst : GoodIn wsX8_sell wsX8_reasonAgainst := goodIn_r _ [30, 31, 32, 33, 34, 35, 36, 37, 38, 39, 40, 41, 42, 43, 44, 45, 11, 46, 14, 15, 16, 47, 48, 49, 50, 51, 52, 53, 54, 55, 56, 57, 58, 59, 60, 61, 62, 63, 64, 65, 66, 67, 68, 69, 18, 19, 70, 71, 72, 73, 74, 75, 76, 77, 78, 79, 80, 81, 82, 83, 84, 85, 86, 87, 88, 89, 90, 91, 92, 93, 94, 95, 96, 97, 98, 99, 100, 101, 102, 103, 104, 196, 197, 198, 199, 200, 201, 202, 203, 204, 205, 206, 207, 208, 209] (by decide +kernel) (by decide +kernel)
set_option maxRecDepth 20000 in
theorem gX8_sell_X8_reasonAgainst : GoodIn wsX8_sell (wsV RX8 169 RX8 yX8_reasonAgainst wsX8_reasonAgainst) := goodIn_app (goodIn_of _ (by decide +kernel)) ggX8_sell_X8_reasonAgainst
set_option maxRecDepth 20000 in
theorem ggX8_sell_X8_requireReceipts : GoodIn wsX8_sell wsX8_requireReceipts := goodIn_ca (goodIn_r _ [108, 1, 2, 109, 110, 111, 112, 113, 114, 115, 116, 117, 118, 119, 120, 121, 196, 197, 198, 199, 200, 210, 211, 212, 213, 214, 215, 216] (by decide +kernel) (by decide +kernel)) (goodIn_sub (fun _ h => List.mem_cons_of_mem _ (List.mem_append_left _ (List.mem_append_right _ h))) (by decide +kernel))
set_option maxRecDepth 20000 in
theorem gX8_sell_X8_requireReceipts : GoodIn wsX8_sell (wsV RX8 175 RX8 yX8_requireReceipts wsX8_requireReceipts) := goodIn_app (goodIn_of _ (by decide +kernel)) ggX8_sell_X8_requireReceipts
set_option maxRecDepth 20000 in
theorem ggX8_sell_X8_handOver : GoodIn wsX8_sell wsX8_handOver := goodIn_r _ [125, 32, 33, 109, 74, 75, 76, 77, 78, 79, 80, 81, 15, 11, 16, 82, 18, 19, 83, 84, 85, 86, 87, 88, 89, 90, 91, 92, 93, 94, 95, 96, 97, 98, 61, 99, 67, 100, 101, 102, 103, 104, 71, 72, 73, 68, 69, 126, 64, 65, 66, 127, 128, 129, 113, 130, 115, 131, 132, 133, 134, 135, 136, 137, 138, 139, 140, 141, 142, 143, 144, 145, 146, 119, 147, 148, 149, 150, 121, 151, 152, 153, 154, 155, 156, 157, 158, 159, 160, 161, 162, 163, 164, 165, 166, 167, 168, 169, 170, 171, 172, 173, 174, 175, 176, 177, 178, 179, 180, 181, 182, 183, 184, 185, 186, 187, 188, 189, 190, 191, 192, 193, 194, 195, 196, 197, 198, 199, 200, 201, 202, 203, 209, 210, 211, 212, 213, 217, 218, 219, 214, 215, 216] (by decide +kernel) (by decide +kernel)
set_option maxRecDepth 20000 in
theorem gX8_sell_X8_handOver : GoodIn wsX8_sell (wsV RX8 178 RX8 yX8_handOver wsX8_handOver) := goodIn_app (goodIn_of _ (by decide +kernel)) ggX8_sell_X8_handOver
theorem dX8_sell_0 : decode cX8_sell 0 = .ok (.lload_n 1, 1) := by decide +kernel
theorem dX8_sell_1 : decode cX8_sell 1 = .ok (.invokestatic 44, 3) := by decide +kernel
theorem dX8_sell_4 : decode cX8_sell 4 = .ok (.iload_n 3, 1) := by decide +kernel
theorem dX8_sell_5 : decode cX8_sell 5 = .ok (.invokestatic 166, 3) := by decide +kernel
theorem dX8_sell_8 : decode cX8_sell 8 = .ok (.aload_n 0, 1) := by decide +kernel
theorem dX8_sell_9 : decode cX8_sell 9 = .ok (.lload_n 1, 1) := by decide +kernel
theorem dX8_sell_10 : decode cX8_sell 10 = .ok (.iload_n 3, 1) := by decide +kernel
theorem dX8_sell_11 : decode cX8_sell 11 = .ok (.invokevirtual 169, 3) := by decide +kernel
theorem dX8_sell_14 : decode cX8_sell 14 = .ok (.ifCond .eq 13, 3) := by decide +kernel
theorem dX8_sell_17 : decode cX8_sell 17 = .ok (.new 52, 3) := by decide +kernel
theorem dX8_sell_20 : decode cX8_sell 20 = .ok (.dup, 1) := by decide +kernel
theorem dX8_sell_21 : decode cX8_sell 21 = .ok (.ldc 173, 2) := by decide +kernel
theorem dX8_sell_23 : decode cX8_sell 23 = .ok (.invokespecial 56, 3) := by decide +kernel
theorem dX8_sell_26 : decode cX8_sell 26 = .ok (.athrow, 1) := by decide +kernel
theorem dX8_sell_27 : decode cX8_sell 27 = .ok (.aload_n 0, 1) := by decide +kernel
theorem dX8_sell_28 : decode cX8_sell 28 = .ok (.iconst 1, 1) := by decide +kernel
theorem dX8_sell_29 : decode cX8_sell 29 = .ok (.invokevirtual 175, 3) := by decide +kernel
theorem dX8_sell_32 : decode cX8_sell 32 = .ok (.aload_n 0, 1) := by decide +kernel
theorem dX8_sell_33 : decode cX8_sell 33 = .ok (.lload_n 1, 1) := by decide +kernel
theorem dX8_sell_34 : decode cX8_sell 34 = .ok (.invokevirtual 178, 3) := by decide +kernel
theorem dX8_sell_37 : decode cX8_sell 37 = .ok (.ireturn, 1) := by decide +kernel
set_option maxRecDepth 20000 in
theorem ggX8_affordableWords_X8_requireBudget : GoodIn wsX8_affordableWords wsX8_requireBudget := goodIn_ca (goodIn_r _ [6, 7, 8, 9, 5, 10, 11, 12] (by decide +kernel) (by decide +kernel)) (goodIn_sub (fun _ h => List.mem_cons_of_mem _ (List.mem_append_right _ h)) (by decide +kernel))
set_option maxRecDepth 20000 in
theorem gX8_affordableWords_X8_requireBudget : GoodIn wsX8_affordableWords (va_wsS RX8 166 yX8_requireBudget wsX8_requireBudget) := goodIn_app (goodIn_of _ (by decide +kernel)) ggX8_affordableWords_X8_requireBudget
set_option maxRecDepth 20000 in
theorem ggX8_affordableWords_X1_words : GoodIn wsX8_affordableWords wsX1_words := goodIn_r _ [17, 18, 91, 92, 93] (by decide +kernel) (by decide +kernel)
set_option maxRecDepth 20000 in
theorem gX8_affordableWords_X1_words : GoodIn wsX8_affordableWords (wsV RX8 59 RX1 yX1_words wsX1_words) := goodIn_app (goodIn_of _ (by decide +kernel)) ggX8_affordableWords_X1_words
set_option maxRecDepth 20000 in
theorem ggX8_affordableWords_X6_size : GoodIn wsX8_affordableWords wsX6_size := goodIn_r _ [23, 24, 94, 95] (by decide +kernel) (by decide +kernel)
set_option maxRecDepth 20000 in
theorem gX8_affordableWords_X6_size : GoodIn wsX8_affordableWords (wsV RX8 74 RX6 yX6_size wsX6_size) := goodIn_app (goodIn_of _ (by decide +kernel)) ggX8_affordableWords_X6_size
set_option maxRecDepth 20000 in
theorem ggX8_affordableWords_X6_word : GoodIn wsX8_affordableWords wsX6_word := goodIn_r _ [28, 24, 29, 94, 95] (by decide +kernel) (by decide +kernel)
set_option maxRecDepth 20000 in
theorem gX8_affordableWords_X6_word : GoodIn wsX8_affordableWords (wsV RX8 94 RX6 yX6_word wsX6_word) := goodIn_app (goodIn_of _ (by decide +kernel)) ggX8_affordableWords_X6_word
set_option maxRecDepth 20000 in
theorem ggX8_affordableWords_X5_canSell : GoodIn wsX8_affordableWords wsX5_canSell := goodIn_r _ [34, 35, 36, 37, 38, 39, 40, 41, 42, 43, 44, 45, 46, 47, 48, 49, 50, 51, 52, 53, 54, 55, 56, 57, 58, 59, 33, 60, 61, 62, 63, 64, 65, 66, 67, 68, 69, 70, 71, 72, 73, 74, 75, 76, 77, 78, 79, 80, 81, 82, 83, 84, 85, 96, 97, 98, 99] (by decide +kernel) (by decide +kernel)
set_option maxRecDepth 20000 in
theorem gX8_affordableWords_X5_canSell : GoodIn wsX8_affordableWords (wsV RX8 181 RX5 yX5_canSell wsX5_canSell) := goodIn_app (goodIn_of _ (by decide +kernel)) ggX8_affordableWords_X5_canSell
theorem dX8_affordableWords_0 : decode cX8_affordableWords 0 = .ok (.iload_n 1, 1) := by decide +kernel
theorem dX8_affordableWords_1 : decode cX8_affordableWords 1 = .ok (.invokestatic 166, 3) := by decide +kernel
theorem dX8_affordableWords_4 : decode cX8_affordableWords 4 = .ok (.iconst 0, 1) := by decide +kernel
theorem dX8_affordableWords_5 : decode cX8_affordableWords 5 = .ok (.istore_n 2, 1) := by decide +kernel
theorem dX8_affordableWords_6 : decode cX8_affordableWords 6 = .ok (.iconst 0, 1) := by decide +kernel
theorem dX8_affordableWords_7 : decode cX8_affordableWords 7 = .ok (.istore_n 3, 1) := by decide +kernel
theorem dX8_affordableWords_8 : decode cX8_affordableWords 8 = .ok (.iload_n 3, 1) := by decide +kernel
theorem dX8_affordableWords_9 : decode cX8_affordableWords 9 = .ok (.aload_n 0, 1) := by decide +kernel
theorem dX8_affordableWords_10 : decode cX8_affordableWords 10 = .ok (.getfield 10, 3) := by decide +kernel
theorem dX8_affordableWords_13 : decode cX8_affordableWords 13 = .ok (.invokevirtual 59, 3) := by decide +kernel
theorem dX8_affordableWords_16 : decode cX8_affordableWords 16 = .ok (.invokevirtual 74, 3) := by decide +kernel
theorem dX8_affordableWords_19 : decode cX8_affordableWords 19 = .ok (.if_icmp .ge 34, 3) := by decide +kernel
theorem dX8_affordableWords_22 : decode cX8_affordableWords 22 = .ok (.aload_n 0, 1) := by decide +kernel
theorem dX8_affordableWords_23 : decode cX8_affordableWords 23 = .ok (.getfield 19, 3) := by decide +kernel
theorem dX8_affordableWords_26 : decode cX8_affordableWords 26 = .ok (.aload_n 0, 1) := by decide +kernel
theorem dX8_affordableWords_27 : decode cX8_affordableWords 27 = .ok (.getfield 10, 3) := by decide +kernel
theorem dX8_affordableWords_30 : decode cX8_affordableWords 30 = .ok (.invokevirtual 59, 3) := by decide +kernel
theorem dX8_affordableWords_33 : decode cX8_affordableWords 33 = .ok (.iload_n 3, 1) := by decide +kernel
theorem dX8_affordableWords_34 : decode cX8_affordableWords 34 = .ok (.invokevirtual 94, 3) := by decide +kernel
theorem dX8_affordableWords_37 : decode cX8_affordableWords 37 = .ok (.iload_n 1, 1) := by decide +kernel
theorem dX8_affordableWords_38 : decode cX8_affordableWords 38 = .ok (.invokevirtual 181, 3) := by decide +kernel
theorem dX8_affordableWords_41 : decode cX8_affordableWords 41 = .ok (.ifCond .eq 6, 3) := by decide +kernel
theorem dX8_affordableWords_44 : decode cX8_affordableWords 44 = .ok (.iinc 2 1, 3) := by decide +kernel
theorem dX8_affordableWords_47 : decode cX8_affordableWords 47 = .ok (.iinc 3 1, 3) := by decide +kernel
theorem dX8_affordableWords_50 : decode cX8_affordableWords 50 = .ok (.goto (-42), 3) := by decide +kernel
theorem dX8_affordableWords_53 : decode cX8_affordableWords 53 = .ok (.iload_n 2, 1) := by decide +kernel
theorem dX8_affordableWords_54 : decode cX8_affordableWords 54 = .ok (.ireturn, 1) := by decide +kernel
set_option maxRecDepth 20000 in
theorem ggX8_bestWord_X8_requireBudget : GoodIn wsX8_bestWord wsX8_requireBudget := goodIn_ca (goodIn_r _ [4, 5, 6, 7, 3, 8, 9, 10] (by decide +kernel) (by decide +kernel)) (goodIn_sub (fun _ h => List.mem_cons_of_mem _ (List.mem_append_right _ h)) (by decide +kernel))
set_option maxRecDepth 20000 in
theorem gX8_bestWord_X8_requireBudget : GoodIn wsX8_bestWord (va_wsS RX8 166 yX8_requireBudget wsX8_requireBudget) := goodIn_app (goodIn_of _ (by decide +kernel)) ggX8_bestWord_X8_requireBudget
set_option maxRecDepth 20000 in
theorem ggX8_bestWord_X8_bestFor : GoodIn wsX8_bestWord wsX8_bestFor := goodIn_r _ [14, 15, 16, 17, 18, 19, 20, 21, 22, 23, 24, 25, 26, 27, 28, 29, 30, 31, 32, 33, 34, 35, 36, 37, 38, 39, 40, 41, 42, 43, 44, 45, 46, 47, 48, 49, 50, 51, 52, 53, 54, 55, 56, 57, 58, 59, 60, 61, 62, 63, 64, 65, 66, 67, 68, 69, 70, 71, 72, 73, 74, 75, 76, 77, 78, 79, 80, 81, 82, 83, 84, 85, 86, 87, 88, 89, 90, 91, 92, 93, 94, 95, 96, 97, 98, 99, 100, 101, 102, 103, 104, 105] (by decide +kernel) (by decide +kernel)
set_option maxRecDepth 20000 in
theorem gX8_bestWord_X8_bestFor : GoodIn wsX8_bestWord (wsV RX8 185 RX8 yX8_bestFor wsX8_bestFor) := goodIn_app (goodIn_of _ (by decide +kernel)) ggX8_bestWord_X8_bestFor
theorem dX8_bestWord_0 : decode cX8_bestWord 0 = .ok (.iload_n 1, 1) := by decide +kernel
theorem dX8_bestWord_1 : decode cX8_bestWord 1 = .ok (.invokestatic 166, 3) := by decide +kernel
theorem dX8_bestWord_4 : decode cX8_bestWord 4 = .ok (.aload_n 0, 1) := by decide +kernel
theorem dX8_bestWord_5 : decode cX8_bestWord 5 = .ok (.iload_n 1, 1) := by decide +kernel
theorem dX8_bestWord_6 : decode cX8_bestWord 6 = .ok (.invokevirtual 185, 3) := by decide +kernel
theorem dX8_bestWord_9 : decode cX8_bestWord 9 = .ok (.lreturn, 1) := by decide +kernel
set_option maxRecDepth 20000 in
theorem ggX8_spend_X8_requireBudget : GoodIn wsX8_spend wsX8_requireBudget := goodIn_ca (goodIn_r _ [5, 6, 7, 8, 4, 9, 10, 11] (by decide +kernel) (by decide +kernel)) (goodIn_sub (fun _ h => List.mem_cons_of_mem _ (List.mem_append_right _ h)) (by decide +kernel))
set_option maxRecDepth 20000 in
theorem gX8_spend_X8_requireBudget : GoodIn wsX8_spend (va_wsS RX8 166 yX8_requireBudget wsX8_requireBudget) := goodIn_app (goodIn_of _ (by decide +kernel)) ggX8_spend_X8_requireBudget
set_option maxRecDepth 20000 in
theorem ggX8_spend_X0_hasRoomFor : GoodIn wsX8_spend wsX0_hasRoomFor := goodIn_r _ [16, 17, 18, 19, 20, 21, 22, 23, 185, 186, 187, 188, 189, 190, 191] (by decide +kernel) (by decide +kernel)
set_option maxRecDepth 20000 in
theorem gX8_spend_X0_hasRoomFor : GoodIn wsX8_spend (wsV RX8 188 RX0 yX0_hasRoomFor wsX0_hasRoomFor) := goodIn_app (goodIn_of _ (by decide +kernel)) ggX8_spend_X0_hasRoomFor
set_option maxRecDepth 20000 in
theorem ggX8_spend_X8_bestFor : GoodIn wsX8_spend wsX8_bestFor := goodIn_r _ [27, 28, 29, 30, 31, 32, 33, 34, 35, 36, 37, 38, 39, 40, 41, 42, 43, 44, 45, 46, 47, 48, 49, 50, 51, 52, 53, 54, 55, 56, 57, 58, 59, 60, 61, 62, 63, 64, 65, 66, 67, 68, 69, 70, 71, 72, 73, 74, 75, 76, 77, 78, 79, 80, 81, 82, 83, 84, 85, 86, 87, 88, 89, 90, 91, 92, 93, 94, 95, 96, 97, 98, 99, 100, 101, 102, 103, 104, 180, 181, 182, 183, 184, 192, 193, 194, 195, 196, 197, 198, 199, 200] (by decide +kernel) (by decide +kernel)
set_option maxRecDepth 20000 in
theorem gX8_spend_X8_bestFor : GoodIn wsX8_spend (wsV RX8 185 RX8 yX8_bestFor wsX8_bestFor) := goodIn_app (goodIn_of _ (by decide +kernel)) ggX8_spend_X8_bestFor
set_option maxRecDepth 20000 in
theorem ggX8_spend_X8_handOver : GoodIn wsX8_spend wsX8_handOver := goodIn_r _ [108, 29, 109, 1, 104, 76, 77, 54, 78, 79, 56, 80, 48, 49, 50, 81, 69, 70, 82, 83, 84, 85, 86, 87, 88, 89, 90, 91, 92, 93, 94, 95, 96, 97, 60, 98, 66, 99, 100, 101, 102, 103, 72, 73, 74, 67, 68, 110, 63, 64, 65, 111, 112, 113, 15, 114, 17, 115, 116, 117, 118, 119, 120, 121, 122, 123, 124, 125, 126, 127, 128, 129, 130, 21, 131, 132, 133, 134, 23, 135, 136, 137, 138, 139, 140, 141, 142, 143, 144, 145, 146, 147, 148, 149, 150, 151, 152, 153, 154, 155, 156, 157, 158, 159, 160, 161, 162, 163, 164, 165, 166, 167, 168, 169, 170, 171, 172, 173, 174, 175, 176, 177, 178, 179, 180, 181, 182, 183, 184, 197, 198, 199, 200, 185, 186, 187, 188, 201, 202, 203, 189, 190, 191] (by decide +kernel) (by decide +kernel)
set_option maxRecDepth 20000 in
theorem gX8_spend_X8_handOver : GoodIn wsX8_spend (wsV RX8 178 RX8 yX8_handOver wsX8_handOver) := goodIn_app (goodIn_of _ (by decide +kernel)) ggX8_spend_X8_handOver
theorem dX8_spend_0 : decode cX8_spend 0 = .ok (.iload_n 1, 1) := by decide +kernel
theorem dX8_spend_1 : decode cX8_spend 1 = .ok (.invokestatic 166, 3) := by decide +kernel
theorem dX8_spend_4 : decode cX8_spend 4 = .ok (.iload_n 1, 1) := by decide +kernel
theorem dX8_spend_5 : decode cX8_spend 5 = .ok (.istore_n 2, 1) := by decide +kernel
theorem dX8_spend_6 : decode cX8_spend 6 = .ok (.iconst 0, 1) := by decide +kernel
theorem dX8_spend_7 : decode cX8_spend 7 = .ok (.istore_n 3, 1) := by decide +kernel
theorem dX8_spend_8 : decode cX8_spend 8 = .ok (.iload_n 3, 1) := by decide +kernel
theorem dX8_spend_9 : decode cX8_spend 9 = .ok (.bipush 20, 2) := by decide +kernel
theorem dX8_spend_11 : decode cX8_spend 11 = .ok (.if_icmp .ge 46, 3) := by decide +kernel
theorem dX8_spend_14 : decode cX8_spend 14 = .ok (.aload_n 0, 1) := by decide +kernel
theorem dX8_spend_15 : decode cX8_spend 15 = .ok (.getfield 26, 3) := by decide +kernel
theorem dX8_spend_18 : decode cX8_spend 18 = .ok (.iconst 1, 1) := by decide +kernel
theorem dX8_spend_19 : decode cX8_spend 19 = .ok (.invokevirtual 188, 3) := by decide +kernel
theorem dX8_spend_22 : decode cX8_spend 22 = .ok (.ifCond .eq 35, 3) := by decide +kernel
theorem dX8_spend_25 : decode cX8_spend 25 = .ok (.aload_n 0, 1) := by decide +kernel
theorem dX8_spend_26 : decode cX8_spend 26 = .ok (.iload_n 2, 1) := by decide +kernel
theorem dX8_spend_27 : decode cX8_spend 27 = .ok (.invokevirtual 185, 3) := by decide +kernel
theorem dX8_spend_30 : decode cX8_spend 30 = .ok (.lstore 4, 2) := by decide +kernel
theorem dX8_spend_32 : decode cX8_spend 32 = .ok (.lload 4, 2) := by decide +kernel
theorem dX8_spend_34 : decode cX8_spend 34 = .ok (.lconst 0, 1) := by decide +kernel
theorem dX8_spend_35 : decode cX8_spend 35 = .ok (.lcmp, 1) := by decide +kernel
theorem dX8_spend_36 : decode cX8_spend 36 = .ok (.ifCond .ne 6, 3) := by decide +kernel
theorem dX8_spend_39 : decode cX8_spend 39 = .ok (.goto 18, 3) := by decide +kernel
theorem dX8_spend_42 : decode cX8_spend 42 = .ok (.iload_n 2, 1) := by decide +kernel
theorem dX8_spend_43 : decode cX8_spend 43 = .ok (.aload_n 0, 1) := by decide +kernel
theorem dX8_spend_44 : decode cX8_spend 44 = .ok (.lload 4, 2) := by decide +kernel
theorem dX8_spend_46 : decode cX8_spend 46 = .ok (.invokevirtual 178, 3) := by decide +kernel
theorem dX8_spend_49 : decode cX8_spend 49 = .ok (.isub, 1) := by decide +kernel
theorem dX8_spend_50 : decode cX8_spend 50 = .ok (.istore_n 2, 1) := by decide +kernel
theorem dX8_spend_51 : decode cX8_spend 51 = .ok (.iinc 3 1, 3) := by decide +kernel
theorem dX8_spend_54 : decode cX8_spend 54 = .ok (.goto (-46), 3) := by decide +kernel
theorem dX8_spend_57 : decode cX8_spend 57 = .ok (.iload_n 3, 1) := by decide +kernel
theorem dX8_spend_58 : decode cX8_spend 58 = .ok (.ireturn, 1) := by decide +kernel
set_option maxRecDepth 20000 in
theorem ggX8_planLength_X8_makePlan : GoodIn wsX8_planLength wsX8_makePlan := goodIn_ca (goodIn_r _ [6, 1, 7, 8, 9, 5, 10, 11, 12, 13, 14, 15, 16, 17, 18, 19, 20, 21, 22, 23, 24, 25, 26, 27, 28, 29, 30, 31, 32, 33, 34, 35, 36, 37, 38, 39, 40, 41, 42, 43, 44, 45, 46, 47, 48, 49, 50, 51, 52, 53, 54, 55, 56, 57, 58, 59, 60, 61, 62, 63, 64, 65, 66, 67, 68, 69, 70, 71, 72, 73, 74, 75, 76, 77, 78, 79, 80, 81, 82, 83, 84, 85, 86, 87, 88, 89, 90, 91, 92, 93, 94, 95, 96, 97, 98, 99, 100, 101, 102, 103, 104, 105, 106, 107, 108, 109, 110, 111, 112, 113, 114, 115, 116, 117, 118, 119, 120, 121, 122, 123, 124, 130, 131, 132, 133, 134, 135, 136, 137, 138, 139, 140, 141, 142, 143, 144, 145] (by decide +kernel) (by decide +kernel)) (goodIn_sub (fun _ h => List.mem_cons_of_mem _ (List.mem_append_right _ h)) (by decide +kernel))
set_option maxRecDepth 20000 in
theorem gX8_planLength_X8_makePlan : GoodIn wsX8_planLength (wsV RX8 192 RX8 yX8_makePlan wsX8_makePlan) := goodIn_app (goodIn_of _ (by decide +kernel)) ggX8_planLength_X8_makePlan
set_option maxRecDepth 20000 in
theorem ggX8_planLength_X3_best : GoodIn wsX8_planLength wsX3_best := goodIn_r _ [128, 90, 141, 142, 143, 144, 145] (by decide +kernel) (by decide +kernel)
set_option maxRecDepth 20000 in
theorem gX8_planLength_X3_best : GoodIn wsX8_planLength (wsV RX8 195 RX3 yX3_best wsX3_best) := goodIn_app (goodIn_of _ (by decide +kernel)) ggX8_planLength_X3_best
set_option maxRecDepth 20000 in
theorem ggX8_planLength_X6_size : GoodIn wsX8_planLength wsX6_size := goodIn_r _ [60, 56, 139, 140] (by decide +kernel) (by decide +kernel)
set_option maxRecDepth 20000 in
theorem gX8_planLength_X6_size : GoodIn wsX8_planLength (wsV RX8 74 RX6 yX6_size wsX6_size) := goodIn_app (goodIn_of _ (by decide +kernel)) ggX8_planLength_X6_size
theorem dX8_planLength_0 : decode cX8_planLength 0 = .ok (.aload_n 0, 1) := by decide +kernel
theorem dX8_planLength_1 : decode cX8_planLength 1 = .ok (.lload_n 1, 1) := by decide +kernel
theorem dX8_planLength_2 : decode cX8_planLength 2 = .ok (.iload_n 3, 1) := by decide +kernel
theorem dX8_planLength_3 : decode cX8_planLength 3 = .ok (.invokevirtual 192, 3) := by decide +kernel
theorem dX8_planLength_6 : decode cX8_planLength 6 = .ok (.aload_n 0, 1) := by decide +kernel
theorem dX8_planLength_7 : decode cX8_planLength 7 = .ok (.getfield 33, 3) := by decide +kernel
theorem dX8_planLength_10 : decode cX8_planLength 10 = .ok (.invokevirtual 195, 3) := by decide +kernel
theorem dX8_planLength_13 : decode cX8_planLength 13 = .ok (.invokevirtual 74, 3) := by decide +kernel
theorem dX8_planLength_16 : decode cX8_planLength 16 = .ok (.ireturn, 1) := by decide +kernel
set_option maxRecDepth 20000 in
theorem ggX8_planWord_X8_makePlan : GoodIn wsX8_planWord wsX8_makePlan := goodIn_ca (goodIn_r _ [6, 1, 7, 8, 9, 5, 10, 11, 12, 13, 14, 15, 16, 17, 18, 19, 20, 21, 22, 23, 24, 25, 26, 27, 28, 29, 30, 31, 32, 33, 34, 35, 36, 37, 38, 39, 40, 41, 42, 43, 44, 45, 46, 47, 48, 49, 50, 51, 52, 53, 54, 55, 56, 57, 58, 59, 60, 61, 62, 63, 64, 65, 66, 67, 68, 69, 70, 71, 72, 73, 74, 75, 76, 77, 78, 79, 80, 81, 82, 83, 84, 85, 86, 87, 88, 89, 90, 91, 92, 93, 94, 95, 96, 97, 98, 99, 100, 101, 102, 103, 104, 105, 106, 107, 108, 109, 110, 111, 112, 113, 114, 115, 116, 117, 118, 119, 120, 121, 122, 123, 124, 136, 137, 138, 139, 140, 141, 142, 143, 144, 145, 146, 147, 148, 149, 150, 151] (by decide +kernel) (by decide +kernel)) (goodIn_sub (fun _ h => List.mem_cons_of_mem _ (List.mem_append_left _ (List.mem_append_right _ h))) (by decide +kernel))
set_option maxRecDepth 20000 in
theorem gX8_planWord_X8_makePlan : GoodIn wsX8_planWord (wsV RX8 192 RX8 yX8_makePlan wsX8_makePlan) := goodIn_app (goodIn_of _ (by decide +kernel)) ggX8_planWord_X8_makePlan
set_option maxRecDepth 20000 in
theorem ggX8_planWord_X3_best : GoodIn wsX8_planWord wsX3_best := goodIn_r _ [128, 90, 147, 148, 149, 150, 151] (by decide +kernel) (by decide +kernel)
set_option maxRecDepth 20000 in
theorem gX8_planWord_X3_best : GoodIn wsX8_planWord (wsV RX8 195 RX3 yX3_best wsX3_best) := goodIn_app (goodIn_of _ (by decide +kernel)) ggX8_planWord_X3_best
set_option maxRecDepth 20000 in
theorem ggX8_planWord_X8_requireWordOf : GoodIn wsX8_planWord wsX8_requireWordOf := goodIn_ca (goodIn_r _ [131, 132, 133, 134, 58, 59, 54, 60, 56, 135, 62, 63, 64, 65, 145, 146] (by decide +kernel) (by decide +kernel)) (goodIn_sub (fun _ h => List.mem_cons_of_mem _ (List.mem_append_right _ h)) (by decide +kernel))
set_option maxRecDepth 20000 in
theorem gX8_planWord_X8_requireWordOf : GoodIn wsX8_planWord (va_wsS RX8 86 yX8_requireWordOf wsX8_requireWordOf) := goodIn_app (goodIn_of _ (by decide +kernel)) ggX8_planWord_X8_requireWordOf
theorem dX8_planWord_0 : decode cX8_planWord 0 = .ok (.aload_n 0, 1) := by decide +kernel
theorem dX8_planWord_1 : decode cX8_planWord 1 = .ok (.lload_n 1, 1) := by decide +kernel
theorem dX8_planWord_2 : decode cX8_planWord 2 = .ok (.iload_n 3, 1) := by decide +kernel
theorem dX8_planWord_3 : decode cX8_planWord 3 = .ok (.invokevirtual 192, 3) := by decide +kernel
theorem dX8_planWord_6 : decode cX8_planWord 6 = .ok (.aload_n 0, 1) := by decide +kernel
theorem dX8_planWord_7 : decode cX8_planWord 7 = .ok (.getfield 33, 3) := by decide +kernel
theorem dX8_planWord_10 : decode cX8_planWord 10 = .ok (.invokevirtual 195, 3) := by decide +kernel
theorem dX8_planWord_13 : decode cX8_planWord 13 = .ok (.iload 4, 2) := by decide +kernel
theorem dX8_planWord_15 : decode cX8_planWord 15 = .ok (.invokestatic 86, 3) := by decide +kernel
theorem dX8_planWord_18 : decode cX8_planWord 18 = .ok (.lreturn, 1) := by decide +kernel
set_option maxRecDepth 20000 in
theorem ggX8_leftoverCount_X8_makePlan : GoodIn wsX8_leftoverCount wsX8_makePlan := goodIn_ca (goodIn_r _ [6, 1, 7, 8, 9, 5, 10, 11, 12, 13, 14, 15, 16, 17, 18, 19, 20, 21, 22, 23, 24, 25, 26, 27, 28, 29, 30, 31, 32, 33, 34, 35, 36, 37, 38, 39, 40, 41, 42, 43, 44, 45, 46, 47, 48, 49, 50, 51, 52, 53, 54, 55, 56, 57, 58, 59, 60, 61, 62, 63, 64, 65, 66, 67, 68, 69, 70, 71, 72, 73, 74, 75, 76, 77, 78, 79, 80, 81, 82, 83, 84, 85, 86, 87, 88, 89, 90, 91, 92, 93, 94, 95, 96, 97, 98, 99, 100, 101, 102, 103, 104, 105, 106, 107, 108, 109, 110, 111, 112, 113, 114, 115, 116, 117, 118, 119, 120, 121, 122, 123, 124, 133, 134, 135, 136, 137, 138, 139, 140, 141, 142, 143, 144, 145, 146, 147, 148] (by decide +kernel) (by decide +kernel)) (goodIn_sub (fun _ h => List.mem_cons_of_mem _ (List.mem_append_right _ h)) (by decide +kernel))
set_option maxRecDepth 20000 in
theorem gX8_leftoverCount_X8_makePlan : GoodIn wsX8_leftoverCount (wsV RX8 192 RX8 yX8_makePlan wsX8_makePlan) := goodIn_app (goodIn_of _ (by decide +kernel)) ggX8_leftoverCount_X8_makePlan
set_option maxRecDepth 20000 in
theorem ggX8_leftoverCount_X3_leftovers : GoodIn wsX8_leftoverCount wsX3_leftovers := goodIn_r _ [128, 89, 144, 145, 146, 147, 148] (by decide +kernel) (by decide +kernel)
set_option maxRecDepth 20000 in
theorem gX8_leftoverCount_X3_leftovers : GoodIn wsX8_leftoverCount (wsV RX8 198 RX3 yX3_leftovers wsX3_leftovers) := goodIn_app (goodIn_of _ (by decide +kernel)) ggX8_leftoverCount_X3_leftovers
set_option maxRecDepth 20000 in
theorem ggX8_leftoverCount_X2_total : GoodIn wsX8_leftoverCount wsX2_total := goodIn_r _ [132, 44, 141] (by decide +kernel) (by decide +kernel)
set_option maxRecDepth 20000 in
theorem gX8_leftoverCount_X2_total : GoodIn wsX8_leftoverCount (wsV RX8 131 RX2 yX2_total wsX2_total) := goodIn_app (goodIn_of _ (by decide +kernel)) ggX8_leftoverCount_X2_total
theorem dX8_leftoverCount_0 : decode cX8_leftoverCount 0 = .ok (.aload_n 0, 1) := by decide +kernel
theorem dX8_leftoverCount_1 : decode cX8_leftoverCount 1 = .ok (.lload_n 1, 1) := by decide +kernel
theorem dX8_leftoverCount_2 : decode cX8_leftoverCount 2 = .ok (.iload_n 3, 1) := by decide +kernel
theorem dX8_leftoverCount_3 : decode cX8_leftoverCount 3 = .ok (.invokevirtual 192, 3) := by decide +kernel
theorem dX8_leftoverCount_6 : decode cX8_leftoverCount 6 = .ok (.aload_n 0, 1) := by decide +kernel
theorem dX8_leftoverCount_7 : decode cX8_leftoverCount 7 = .ok (.getfield 33, 3) := by decide +kernel
theorem dX8_leftoverCount_10 : decode cX8_leftoverCount 10 = .ok (.invokevirtual 198, 3) := by decide +kernel
theorem dX8_leftoverCount_13 : decode cX8_leftoverCount 13 = .ok (.invokevirtual 131, 3) := by decide +kernel
theorem dX8_leftoverCount_16 : decode cX8_leftoverCount 16 = .ok (.ireturn, 1) := by decide +kernel
set_option maxRecDepth 20000 in
theorem ggX8_cutToOrder_X8_makePlan : GoodIn wsX8_cutToOrder wsX8_makePlan := goodIn_ca (goodIn_r _ [10, 1, 11, 12, 13, 9, 14, 15, 16, 17, 18, 19, 20, 21, 22, 23, 24, 25, 26, 27, 28, 29, 30, 31, 32, 33, 34, 35, 36, 37, 38, 39, 40, 41, 42, 43, 44, 45, 46, 47, 48, 49, 50, 51, 52, 53, 54, 55, 56, 57, 58, 59, 60, 61, 62, 63, 64, 65, 66, 67, 68, 69, 70, 71, 72, 73, 74, 75, 76, 77, 78, 79, 80, 81, 82, 83, 84, 85, 86, 87, 88, 89, 90, 91, 92, 93, 94, 95, 96, 97, 98, 99, 100, 101, 102, 103, 104, 105, 106, 107, 108, 109, 110, 111, 112, 113, 114, 115, 116, 117, 118, 119, 120, 121, 122, 123, 124, 125, 126, 127, 128, 250, 251, 252, 253, 254, 262, 263, 264, 265, 266, 267, 268, 269, 270, 271, 272] (by decide +kernel) (by decide +kernel)) (goodIn_sub (fun _ h => List.mem_cons_of_mem _ (List.mem_append_left _ (List.mem_append_right _ h))) (by decide +kernel))
set_option maxRecDepth 20000 in
theorem gX8_cutToOrder_X8_makePlan : GoodIn wsX8_cutToOrder (wsV RX8 192 RX8 yX8_makePlan wsX8_makePlan) := goodIn_app (goodIn_of _ (by decide +kernel)) ggX8_cutToOrder_X8_makePlan
set_option maxRecDepth 20000 in
theorem ggX8_cutToOrder_X3_leftovers : GoodIn wsX8_cutToOrder wsX3_leftovers := goodIn_r _ [132, 93, 268, 269, 270, 271, 272] (by decide +kernel) (by decide +kernel)
set_option maxRecDepth 20000 in
theorem gX8_cutToOrder_X3_leftovers : GoodIn wsX8_cutToOrder (wsV RX8 198 RX3 yX3_leftovers wsX3_leftovers) := goodIn_app (goodIn_of _ (by decide +kernel)) ggX8_cutToOrder_X3_leftovers
set_option maxRecDepth 20000 in
theorem ggX8_cutToOrder_X8_requireRoom : GoodIn wsX8_cutToOrder wsX8_requireRoom := goodIn_ca (goodIn_r _ [136, 137, 138, 4, 139, 140, 141, 142, 143, 144, 145, 146, 147, 46, 148, 48, 250, 251, 252, 253, 254, 259, 260, 261, 265] (by decide +kernel) (by decide +kernel)) (goodIn_sub (fun _ h => List.mem_cons_of_mem _ (List.mem_append_right _ h)) (by decide +kernel))
set_option maxRecDepth 20000 in
theorem gX8_cutToOrder_X8_requireRoom : GoodIn wsX8_cutToOrder (wsV RX8 118 RX8 yX8_requireRoom wsX8_requireRoom) := goodIn_app (goodIn_of _ (by decide +kernel)) ggX8_cutToOrder_X8_requireRoom
set_option maxRecDepth 20000 in
theorem ggX8_cutToOrder_X3_best : GoodIn wsX8_cutToOrder wsX3_best := goodIn_r _ [152, 94, 268, 269, 270, 271, 272] (by decide +kernel) (by decide +kernel)
set_option maxRecDepth 20000 in
theorem gX8_cutToOrder_X3_best : GoodIn wsX8_cutToOrder (wsV RX8 195 RX3 yX3_best wsX3_best) := goodIn_app (goodIn_of _ (by decide +kernel)) ggX8_cutToOrder_X3_best
set_option maxRecDepth 20000 in
theorem ggX8_cutToOrder_X6_size : GoodIn wsX8_cutToOrder wsX6_size := goodIn_r _ [64, 60, 266, 267] (by decide +kernel) (by decide +kernel)
set_option maxRecDepth 20000 in
theorem gX8_cutToOrder_X6_size : GoodIn wsX8_cutToOrder (wsV RX8 74 RX6 yX6_size wsX6_size) := goodIn_app (goodIn_of _ (by decide +kernel)) ggX8_cutToOrder_X6_size
set_option maxRecDepth 20000 in
theorem ggX8_cutToOrder_X8_requireReceipts : GoodIn wsX8_cutToOrder wsX8_requireReceipts := goodIn_ca (goodIn_r _ [157, 137, 138, 2, 158, 159, 160, 161, 162, 163, 164, 165, 166, 167, 168, 169, 250, 251, 252, 253, 254, 255, 256, 257, 258, 273, 274, 275] (by decide +kernel) (by decide +kernel)) (goodIn_sub (fun _ h => List.mem_cons_of_mem _ (List.mem_append_right _ h)) (by decide +kernel))
set_option maxRecDepth 20000 in
theorem gX8_cutToOrder_X8_requireReceipts : GoodIn wsX8_cutToOrder (wsV RX8 175 RX8 yX8_requireReceipts wsX8_requireReceipts) := goodIn_app (goodIn_of _ (by decide +kernel)) ggX8_cutToOrder_X8_requireReceipts
set_option maxRecDepth 20000 in
theorem ggX8_cutToOrder_X6_word : GoodIn wsX8_cutToOrder wsX6_word := goodIn_r _ [68, 60, 69, 266, 267] (by decide +kernel) (by decide +kernel)
set_option maxRecDepth 20000 in
theorem gX8_cutToOrder_X6_word : GoodIn wsX8_cutToOrder (wsV RX8 94 RX6 yX6_word wsX6_word) := goodIn_app (goodIn_of _ (by decide +kernel)) ggX8_cutToOrder_X6_word
set_option maxRecDepth 20000 in
theorem ggX8_cutToOrder_X7_lengthOf : GoodIn wsX8_cutToOrder wsX7_lengthOf := goodIn_r _ [24] (by decide +kernel) (by decide +kernel)
set_option maxRecDepth 20000 in
theorem gX8_cutToOrder_X7_lengthOf : GoodIn wsX8_cutToOrder (va_wsS RX8 202 yX7_lengthOf wsX7_lengthOf) := goodIn_app (goodIn_of _ (by decide +kernel)) ggX8_cutToOrder_X7_lengthOf
set_option maxRecDepth 20000 in
theorem ggX8_cutToOrder_X0_writeReceipt : GoodIn wsX8_cutToOrder wsX0_writeReceipt := goodIn_r _ [175, 163, 176, 177, 178, 179, 180, 181, 182, 183, 184, 185, 186, 187, 188, 189, 190, 191, 167, 192, 193, 194, 195, 169, 196, 197, 198, 199, 200, 201, 202, 203, 204, 205, 206, 207, 208, 209, 104, 105, 106, 210, 211, 212, 213, 214, 215, 216, 217, 218, 219, 220, 221, 222, 223, 224, 225, 226, 227, 228, 229, 230, 231, 232, 233, 234, 235, 236, 237, 238, 239, 240, 50, 51, 46, 52, 48, 53, 23, 19, 24, 54, 26, 27, 255, 256, 257, 258, 276, 277, 278, 273, 274, 275, 265] (by decide +kernel) (by decide +kernel)
set_option maxRecDepth 20000 in
theorem gX8_cutToOrder_X0_writeReceipt : GoodIn wsX8_cutToOrder (wsV RX8 207 RX0 yX0_writeReceipt wsX0_writeReceipt) := goodIn_app (goodIn_of _ (by decide +kernel)) ggX8_cutToOrder_X0_writeReceipt
set_option maxRecDepth 20000 in
theorem ggX8_cutToOrder_X2_put : GoodIn wsX8_cutToOrder wsX2_put := goodIn_r _ [52, 48, 53, 23, 19, 24, 54, 26, 27, 265] (by decide +kernel) (by decide +kernel)
set_option maxRecDepth 20000 in
theorem gX8_cutToOrder_X2_put : GoodIn wsX8_cutToOrder (wsV RX8 114 RX2 yX2_put wsX2_put) := goodIn_app (goodIn_of _ (by decide +kernel)) ggX8_cutToOrder_X2_put
set_option maxRecDepth 20000 in
theorem ggX8_cutToOrder_X2_putAll : GoodIn wsX8_cutToOrder wsX2_putAll := goodIn_r _ [245, 48, 265] (by decide +kernel) (by decide +kernel)
set_option maxRecDepth 20000 in
theorem gX8_cutToOrder_X2_putAll : GoodIn wsX8_cutToOrder (wsV RX8 125 RX2 yX2_putAll wsX2_putAll) := goodIn_app (goodIn_of _ (by decide +kernel)) ggX8_cutToOrder_X2_putAll
set_option maxRecDepth 20000 in
theorem ggX8_cutToOrder_X2_total : GoodIn wsX8_cutToOrder wsX2_total := goodIn_r _ [249, 48, 265] (by decide +kernel) (by decide +kernel)
set_option maxRecDepth 20000 in
theorem gX8_cutToOrder_X2_total : GoodIn wsX8_cutToOrder (wsV RX8 131 RX2 yX2_total wsX2_total) := goodIn_app (goodIn_of _ (by decide +kernel)) ggX8_cutToOrder_X2_total
theorem dX8_cutToOrder_0 : decode cX8_cutToOrder 0 = .ok (.aload_n 0, 1) := by decide +kernel
theorem dX8_cutToOrder_1 : decode cX8_cutToOrder 1 = .ok (.lload_n 1, 1) := by decide +kernel
theorem dX8_cutToOrder_2 : decode cX8_cutToOrder 2 = .ok (.iload_n 3, 1) := by decide +kernel
theorem dX8_cutToOrder_3 : decode cX8_cutToOrder 3 = .ok (.invokevirtual 192, 3) := by decide +kernel
theorem dX8_cutToOrder_6 : decode cX8_cutToOrder 6 = .ok (.aload_n 0, 1) := by decide +kernel
theorem dX8_cutToOrder_7 : decode cX8_cutToOrder 7 = .ok (.aload_n 0, 1) := by decide +kernel
theorem dX8_cutToOrder_8 : decode cX8_cutToOrder 8 = .ok (.getfield 33, 3) := by decide +kernel
theorem dX8_cutToOrder_11 : decode cX8_cutToOrder 11 = .ok (.invokevirtual 198, 3) := by decide +kernel
theorem dX8_cutToOrder_14 : decode cX8_cutToOrder 14 = .ok (.invokevirtual 118, 3) := by decide +kernel
theorem dX8_cutToOrder_17 : decode cX8_cutToOrder 17 = .ok (.aload_n 0, 1) := by decide +kernel
theorem dX8_cutToOrder_18 : decode cX8_cutToOrder 18 = .ok (.aload_n 0, 1) := by decide +kernel
theorem dX8_cutToOrder_19 : decode cX8_cutToOrder 19 = .ok (.getfield 33, 3) := by decide +kernel
theorem dX8_cutToOrder_22 : decode cX8_cutToOrder 22 = .ok (.invokevirtual 195, 3) := by decide +kernel
theorem dX8_cutToOrder_25 : decode cX8_cutToOrder 25 = .ok (.invokevirtual 74, 3) := by decide +kernel
theorem dX8_cutToOrder_28 : decode cX8_cutToOrder 28 = .ok (.invokevirtual 175, 3) := by decide +kernel
theorem dX8_cutToOrder_31 : decode cX8_cutToOrder 31 = .ok (.iconst 0, 1) := by decide +kernel
theorem dX8_cutToOrder_32 : decode cX8_cutToOrder 32 = .ok (.istore 4, 2) := by decide +kernel
theorem dX8_cutToOrder_34 : decode cX8_cutToOrder 34 = .ok (.iload 4, 2) := by decide +kernel
theorem dX8_cutToOrder_36 : decode cX8_cutToOrder 36 = .ok (.aload_n 0, 1) := by decide +kernel
theorem dX8_cutToOrder_37 : decode cX8_cutToOrder 37 = .ok (.getfield 33, 3) := by decide +kernel
theorem dX8_cutToOrder_40 : decode cX8_cutToOrder 40 = .ok (.invokevirtual 195, 3) := by decide +kernel
theorem dX8_cutToOrder_43 : decode cX8_cutToOrder 43 = .ok (.invokevirtual 74, 3) := by decide +kernel
theorem dX8_cutToOrder_46 : decode cX8_cutToOrder 46 = .ok (.if_icmp .ge 39, 3) := by decide +kernel
theorem dX8_cutToOrder_49 : decode cX8_cutToOrder 49 = .ok (.aload_n 0, 1) := by decide +kernel
theorem dX8_cutToOrder_50 : decode cX8_cutToOrder 50 = .ok (.getfield 33, 3) := by decide +kernel
theorem dX8_cutToOrder_53 : decode cX8_cutToOrder 53 = .ok (.invokevirtual 195, 3) := by decide +kernel
theorem dX8_cutToOrder_56 : decode cX8_cutToOrder 56 = .ok (.iload 4, 2) := by decide +kernel
theorem dX8_cutToOrder_58 : decode cX8_cutToOrder 58 = .ok (.invokevirtual 94, 3) := by decide +kernel
theorem dX8_cutToOrder_61 : decode cX8_cutToOrder 61 = .ok (.lstore 5, 2) := by decide +kernel
theorem dX8_cutToOrder_63 : decode cX8_cutToOrder 63 = .ok (.aload_n 0, 1) := by decide +kernel
theorem dX8_cutToOrder_64 : decode cX8_cutToOrder 64 = .ok (.getfield 26, 3) := by decide +kernel
theorem dX8_cutToOrder_67 : decode cX8_cutToOrder 67 = .ok (.lload 5, 2) := by decide +kernel
theorem dX8_cutToOrder_69 : decode cX8_cutToOrder 69 = .ok (.iconst 2, 1) := by decide +kernel
theorem dX8_cutToOrder_70 : decode cX8_cutToOrder 70 = .ok (.lload 5, 2) := by decide +kernel
theorem dX8_cutToOrder_72 : decode cX8_cutToOrder 72 = .ok (.invokestatic 202, 3) := by decide +kernel
theorem dX8_cutToOrder_75 : decode cX8_cutToOrder 75 = .ok (.imul, 1) := by decide +kernel
theorem dX8_cutToOrder_76 : decode cX8_cutToOrder 76 = .ok (.invokevirtual 207, 3) := by decide +kernel
theorem dX8_cutToOrder_79 : decode cX8_cutToOrder 79 = .ok (.iinc 4 1, 3) := by decide +kernel
theorem dX8_cutToOrder_82 : decode cX8_cutToOrder 82 = .ok (.goto (-48), 3) := by decide +kernel
theorem dX8_cutToOrder_85 : decode cX8_cutToOrder 85 = .ok (.aload_n 0, 1) := by decide +kernel
theorem dX8_cutToOrder_86 : decode cX8_cutToOrder 86 = .ok (.getfield 26, 3) := by decide +kernel
theorem dX8_cutToOrder_89 : decode cX8_cutToOrder 89 = .ok (.getfield 128, 3) := by decide +kernel
theorem dX8_cutToOrder_92 : decode cX8_cutToOrder 92 = .ok (.lload_n 1, 1) := by decide +kernel
theorem dX8_cutToOrder_93 : decode cX8_cutToOrder 93 = .ok (.iconst 1, 1) := by decide +kernel
theorem dX8_cutToOrder_94 : decode cX8_cutToOrder 94 = .ok (.invokevirtual 114, 3) := by decide +kernel
theorem dX8_cutToOrder_97 : decode cX8_cutToOrder 97 = .ok (.aload_n 0, 1) := by decide +kernel
theorem dX8_cutToOrder_98 : decode cX8_cutToOrder 98 = .ok (.getfield 19, 3) := by decide +kernel
theorem dX8_cutToOrder_101 : decode cX8_cutToOrder 101 = .ok (.getfield 122, 3) := by decide +kernel
theorem dX8_cutToOrder_104 : decode cX8_cutToOrder 104 = .ok (.aload_n 0, 1) := by decide +kernel
theorem dX8_cutToOrder_105 : decode cX8_cutToOrder 105 = .ok (.getfield 33, 3) := by decide +kernel
theorem dX8_cutToOrder_108 : decode cX8_cutToOrder 108 = .ok (.invokevirtual 198, 3) := by decide +kernel
theorem dX8_cutToOrder_111 : decode cX8_cutToOrder 111 = .ok (.invokevirtual 125, 3) := by decide +kernel
theorem dX8_cutToOrder_114 : decode cX8_cutToOrder 114 = .ok (.aload_n 0, 1) := by decide +kernel
theorem dX8_cutToOrder_115 : decode cX8_cutToOrder 115 = .ok (.getfield 33, 3) := by decide +kernel
theorem dX8_cutToOrder_118 : decode cX8_cutToOrder 118 = .ok (.invokevirtual 198, 3) := by decide +kernel
theorem dX8_cutToOrder_121 : decode cX8_cutToOrder 121 = .ok (.invokevirtual 131, 3) := by decide +kernel
theorem dX8_cutToOrder_124 : decode cX8_cutToOrder 124 = .ok (.ireturn, 1) := by decide +kernel
set_option maxRecDepth 20000 in
theorem ggX8_receiptCount_Jx4a65c_size_8abf5 : GoodIn wsX8_receiptCount wsJx4a65c_size_8abf5 := goodIn_r _ [7, 8, 18, 19, 20] (by decide +kernel) (by decide +kernel)
set_option maxRecDepth 20000 in
theorem gX8_receiptCount_Jx4a65c_size_8abf5_f214Jx4a65c : GoodIn wsX8_receiptCount (va_wsF RX8 214 RJx4a65c ⟨"java/util/List", "size", "()I"⟩ yJx4a65c_size_8abf5 wsJx4a65c_size_8abf5) := goodIn_app (goodIn_of _ (by decide +kernel)) ggX8_receiptCount_Jx4a65c_size_8abf5
theorem dX8_receiptCount_0 : decode cX8_receiptCount 0 = .ok (.aload_n 0, 1) := by decide +kernel
theorem dX8_receiptCount_1 : decode cX8_receiptCount 1 = .ok (.getfield 26, 3) := by decide +kernel
theorem dX8_receiptCount_4 : decode cX8_receiptCount 4 = .ok (.getfield 210, 3) := by decide +kernel
theorem dX8_receiptCount_7 : decode cX8_receiptCount 7 = .ok (.invokeinterface 214 1, 5) := by decide +kernel
theorem dX8_receiptCount_12 : decode cX8_receiptCount 12 = .ok (.ireturn, 1) := by decide +kernel
set_option maxRecDepth 20000 in
theorem ggX8_receiptWord_X8_requireReceipt : GoodIn wsX8_receiptWord wsX8_requireReceipt := goodIn_ca (goodIn_r _ [6, 7, 8, 9, 10, 11, 12, 13, 14, 15, 16, 17, 18, 19, 20, 21, 22, 23, 24, 25, 26, 27, 28, 29, 30, 31, 32, 33, 34, 38, 39, 40, 41, 42, 43, 44, 45, 46, 47, 48, 49] (by decide +kernel) (by decide +kernel)) (goodIn_sub (fun _ h => List.mem_cons_of_mem _ (List.mem_append_right _ h)) (by decide +kernel))
set_option maxRecDepth 20000 in
theorem gX8_receiptWord_X8_requireReceipt : GoodIn wsX8_receiptWord (wsV RX8 217 RX8 yX8_requireReceipt wsX8_requireReceipt) := goodIn_app (goodIn_of _ (by decide +kernel)) ggX8_receiptWord_X8_requireReceipt
theorem dX8_receiptWord_0 : decode cX8_receiptWord 0 = .ok (.aload_n 0, 1) := by decide +kernel
theorem dX8_receiptWord_1 : decode cX8_receiptWord 1 = .ok (.iload_n 1, 1) := by decide +kernel
theorem dX8_receiptWord_2 : decode cX8_receiptWord 2 = .ok (.invokevirtual 217, 3) := by decide +kernel
theorem dX8_receiptWord_5 : decode cX8_receiptWord 5 = .ok (.getfield 221, 3) := by decide +kernel
theorem dX8_receiptWord_8 : decode cX8_receiptWord 8 = .ok (.lreturn, 1) := by decide +kernel
set_option maxRecDepth 20000 in
theorem ggX8_receiptPrice_X8_requireReceipt : GoodIn wsX8_receiptPrice wsX8_requireReceipt := goodIn_ca (goodIn_r _ [6, 7, 8, 9, 10, 11, 12, 13, 14, 15, 16, 17, 18, 19, 20, 21, 22, 23, 24, 25, 26, 27, 28, 29, 30, 31, 32, 33, 34, 38, 39, 40, 41, 42, 43, 44, 45, 46, 47, 48, 49] (by decide +kernel) (by decide +kernel)) (goodIn_sub (fun _ h => List.mem_cons_of_mem _ (List.mem_append_right _ h)) (by decide +kernel))
set_option maxRecDepth 20000 in
theorem gX8_receiptPrice_X8_requireReceipt : GoodIn wsX8_receiptPrice (wsV RX8 217 RX8 yX8_requireReceipt wsX8_requireReceipt) := goodIn_app (goodIn_of _ (by decide +kernel)) ggX8_receiptPrice_X8_requireReceipt
theorem dX8_receiptPrice_0 : decode cX8_receiptPrice 0 = .ok (.aload_n 0, 1) := by decide +kernel
theorem dX8_receiptPrice_1 : decode cX8_receiptPrice 1 = .ok (.iload_n 1, 1) := by decide +kernel
theorem dX8_receiptPrice_2 : decode cX8_receiptPrice 2 = .ok (.invokevirtual 217, 3) := by decide +kernel
theorem dX8_receiptPrice_5 : decode cX8_receiptPrice 5 = .ok (.getfield 226, 3) := by decide +kernel
theorem dX8_receiptPrice_8 : decode cX8_receiptPrice 8 = .ok (.ireturn, 1) := by decide +kernel
set_option maxRecDepth 20000 in
theorem ggX8_isReturned_X8_requireReceipt : GoodIn wsX8_isReturned wsX8_requireReceipt := goodIn_ca (goodIn_r _ [6, 7, 8, 9, 10, 11, 12, 13, 14, 15, 16, 17, 18, 19, 20, 21, 22, 23, 24, 25, 26, 27, 28, 29, 30, 31, 32, 33, 34, 38, 39, 40, 41, 42, 43, 44, 45, 46, 47, 48, 49] (by decide +kernel) (by decide +kernel)) (goodIn_sub (fun _ h => List.mem_cons_of_mem _ (List.mem_append_right _ h)) (by decide +kernel))
set_option maxRecDepth 20000 in
theorem gX8_isReturned_X8_requireReceipt : GoodIn wsX8_isReturned (wsV RX8 217 RX8 yX8_requireReceipt wsX8_requireReceipt) := goodIn_app (goodIn_of _ (by decide +kernel)) ggX8_isReturned_X8_requireReceipt
theorem dX8_isReturned_0 : decode cX8_isReturned 0 = .ok (.aload_n 0, 1) := by decide +kernel
theorem dX8_isReturned_1 : decode cX8_isReturned 1 = .ok (.iload_n 1, 1) := by decide +kernel
theorem dX8_isReturned_2 : decode cX8_isReturned 2 = .ok (.invokevirtual 217, 3) := by decide +kernel
theorem dX8_isReturned_5 : decode cX8_isReturned 5 = .ok (.getfield 230, 3) := by decide +kernel
theorem dX8_isReturned_8 : decode cX8_isReturned 8 = .ok (.ireturn, 1) := by decide +kernel
set_option maxRecDepth 20000 in
theorem ggX8_takeBack_X8_requireReceipt : GoodIn wsX8_takeBack wsX8_requireReceipt := goodIn_ca (goodIn_r _ [13, 14, 15, 8, 16, 17, 18, 19, 20, 21, 22, 23, 24, 25, 26, 27, 28, 29, 30, 31, 32, 33, 34, 35, 36, 37, 38, 39, 40, 96, 97, 98, 99, 100, 104, 105, 106, 107, 108, 109, 110] (by decide +kernel) (by decide +kernel)) (goodIn_sub (fun _ h => List.mem_cons_of_mem _ (List.mem_append_right _ h)) (by decide +kernel))
set_option maxRecDepth 20000 in
theorem gX8_takeBack_X8_requireReceipt : GoodIn wsX8_takeBack (wsV RX8 217 RX8 yX8_requireReceipt wsX8_requireReceipt) := goodIn_app (goodIn_of _ (by decide +kernel)) ggX8_takeBack_X8_requireReceipt
set_option maxRecDepth 20000 in
theorem ggX8_takeBack_X2_clear : GoodIn wsX8_takeBack wsX2_clear := goodIn_r _ [45, 46, 111] (by decide +kernel) (by decide +kernel)
set_option maxRecDepth 20000 in
theorem gX8_takeBack_X2_clear : GoodIn wsX8_takeBack (wsV RX8 111 RX2 yX2_clear wsX2_clear) := goodIn_app (goodIn_of _ (by decide +kernel)) ggX8_takeBack_X2_clear
set_option maxRecDepth 20000 in
theorem ggX8_takeBack_X2_put : GoodIn wsX8_takeBack wsX2_put := goodIn_r _ [50, 46, 51, 52, 53, 54, 55, 56, 57, 111] (by decide +kernel) (by decide +kernel)
set_option maxRecDepth 20000 in
theorem gX8_takeBack_X2_put : GoodIn wsX8_takeBack (wsV RX8 114 RX2 yX2_put wsX2_put) := goodIn_app (goodIn_of _ (by decide +kernel)) ggX8_takeBack_X2_put
set_option maxRecDepth 20000 in
theorem ggX8_takeBack_X8_requireRoom : GoodIn wsX8_takeBack wsX8_requireRoom := goodIn_ca (goodIn_r _ [61, 1, 2, 6, 62, 63, 64, 65, 66, 67, 68, 69, 70, 44, 71, 46, 96, 97, 98, 99, 100, 101, 102, 103, 111] (by decide +kernel) (by decide +kernel)) (goodIn_sub (fun _ h => List.mem_cons_of_mem _ (List.mem_append_left _ (List.mem_append_right _ h))) (by decide +kernel))
set_option maxRecDepth 20000 in
theorem gX8_takeBack_X8_requireRoom : GoodIn wsX8_takeBack (wsV RX8 118 RX8 yX8_requireRoom wsX8_requireRoom) := goodIn_app (goodIn_of _ (by decide +kernel)) ggX8_takeBack_X8_requireRoom
set_option maxRecDepth 20000 in
theorem ggX8_takeBack_X2_putAll : GoodIn wsX8_takeBack wsX2_putAll := goodIn_r _ [75, 46, 111] (by decide +kernel) (by decide +kernel)
set_option maxRecDepth 20000 in
theorem gX8_takeBack_X2_putAll : GoodIn wsX8_takeBack (wsV RX8 125 RX2 yX2_putAll wsX2_putAll) := goodIn_app (goodIn_of _ (by decide +kernel)) ggX8_takeBack_X2_putAll
set_option maxRecDepth 20000 in
theorem ggX8_takeBack_X0_giveBack : GoodIn wsX8_takeBack wsX0_giveBack := goodIn_r _ [80, 81, 82, 83, 84, 85, 86, 87, 88, 89, 90, 91, 48, 49, 44, 50, 46, 51, 52, 53, 54, 55, 56, 57, 93, 94, 95, 104, 105, 106, 107, 111] (by decide +kernel) (by decide +kernel)
set_option maxRecDepth 20000 in
theorem gX8_takeBack_X0_giveBack : GoodIn wsX8_takeBack (wsV RX8 236 RX0 yX0_giveBack wsX0_giveBack) := goodIn_app (goodIn_of _ (by decide +kernel)) ggX8_takeBack_X0_giveBack
set_option maxRecDepth 20000 in
theorem ggX8_takeBack_X4_refund : GoodIn wsX8_takeBack wsX4_refund := goodIn_r _ [89, 90, 93, 94, 95] (by decide +kernel) (by decide +kernel)
set_option maxRecDepth 20000 in
theorem gX8_takeBack_X4_refund : GoodIn wsX8_takeBack (wsV RX8 240 RX4 yX4_refund wsX4_refund) := goodIn_app (goodIn_of _ (by decide +kernel)) ggX8_takeBack_X4_refund
theorem dX8_takeBack_0 : decode cX8_takeBack 0 = .ok (.aload_n 0, 1) := by decide +kernel
theorem dX8_takeBack_1 : decode cX8_takeBack 1 = .ok (.iload_n 1, 1) := by decide +kernel
theorem dX8_takeBack_2 : decode cX8_takeBack 2 = .ok (.invokevirtual 217, 3) := by decide +kernel
theorem dX8_takeBack_5 : decode cX8_takeBack 5 = .ok (.astore_n 2, 1) := by decide +kernel
theorem dX8_takeBack_6 : decode cX8_takeBack 6 = .ok (.aload_n 2, 1) := by decide +kernel
theorem dX8_takeBack_7 : decode cX8_takeBack 7 = .ok (.getfield 230, 3) := by decide +kernel
theorem dX8_takeBack_10 : decode cX8_takeBack 10 = .ok (.ifCond .eq 13, 3) := by decide +kernel
theorem dX8_takeBack_13 : decode cX8_takeBack 13 = .ok (.new 52, 3) := by decide +kernel
theorem dX8_takeBack_16 : decode cX8_takeBack 16 = .ok (.dup, 1) := by decide +kernel
theorem dX8_takeBack_17 : decode cX8_takeBack 17 = .ok (.ldc 234, 2) := by decide +kernel
theorem dX8_takeBack_19 : decode cX8_takeBack 19 = .ok (.invokespecial 56, 3) := by decide +kernel
theorem dX8_takeBack_22 : decode cX8_takeBack 22 = .ok (.athrow, 1) := by decide +kernel
theorem dX8_takeBack_23 : decode cX8_takeBack 23 = .ok (.aload_n 0, 1) := by decide +kernel
theorem dX8_takeBack_24 : decode cX8_takeBack 24 = .ok (.getfield 40, 3) := by decide +kernel
theorem dX8_takeBack_27 : decode cX8_takeBack 27 = .ok (.invokevirtual 111, 3) := by decide +kernel
theorem dX8_takeBack_30 : decode cX8_takeBack 30 = .ok (.aload_n 0, 1) := by decide +kernel
theorem dX8_takeBack_31 : decode cX8_takeBack 31 = .ok (.getfield 40, 3) := by decide +kernel
theorem dX8_takeBack_34 : decode cX8_takeBack 34 = .ok (.aload_n 2, 1) := by decide +kernel
theorem dX8_takeBack_35 : decode cX8_takeBack 35 = .ok (.getfield 221, 3) := by decide +kernel
theorem dX8_takeBack_38 : decode cX8_takeBack 38 = .ok (.iconst 1, 1) := by decide +kernel
theorem dX8_takeBack_39 : decode cX8_takeBack 39 = .ok (.invokevirtual 114, 3) := by decide +kernel
theorem dX8_takeBack_42 : decode cX8_takeBack 42 = .ok (.aload_n 0, 1) := by decide +kernel
theorem dX8_takeBack_43 : decode cX8_takeBack 43 = .ok (.aload_n 0, 1) := by decide +kernel
theorem dX8_takeBack_44 : decode cX8_takeBack 44 = .ok (.getfield 40, 3) := by decide +kernel
theorem dX8_takeBack_47 : decode cX8_takeBack 47 = .ok (.invokevirtual 118, 3) := by decide +kernel
theorem dX8_takeBack_50 : decode cX8_takeBack 50 = .ok (.aload_n 0, 1) := by decide +kernel
theorem dX8_takeBack_51 : decode cX8_takeBack 51 = .ok (.getfield 19, 3) := by decide +kernel
theorem dX8_takeBack_54 : decode cX8_takeBack 54 = .ok (.getfield 122, 3) := by decide +kernel
theorem dX8_takeBack_57 : decode cX8_takeBack 57 = .ok (.aload_n 0, 1) := by decide +kernel
theorem dX8_takeBack_58 : decode cX8_takeBack 58 = .ok (.getfield 40, 3) := by decide +kernel
theorem dX8_takeBack_61 : decode cX8_takeBack 61 = .ok (.invokevirtual 125, 3) := by decide +kernel
theorem dX8_takeBack_64 : decode cX8_takeBack 64 = .ok (.aload_n 0, 1) := by decide +kernel
theorem dX8_takeBack_65 : decode cX8_takeBack 65 = .ok (.getfield 26, 3) := by decide +kernel
theorem dX8_takeBack_68 : decode cX8_takeBack 68 = .ok (.aload_n 2, 1) := by decide +kernel
theorem dX8_takeBack_69 : decode cX8_takeBack 69 = .ok (.invokevirtual 236, 3) := by decide +kernel
theorem dX8_takeBack_72 : decode cX8_takeBack 72 = .ok (.aload_n 2, 1) := by decide +kernel
theorem dX8_takeBack_73 : decode cX8_takeBack 73 = .ok (.invokevirtual 240, 3) := by decide +kernel
theorem dX8_takeBack_76 : decode cX8_takeBack 76 = .ok (.ireturn, 1) := by decide +kernel
theorem dX8_takings_0 : decode cX8_takings 0 = .ok (.aload_n 0, 1) := by decide +kernel
theorem dX8_takings_1 : decode cX8_takings 1 = .ok (.getfield 26, 3) := by decide +kernel
theorem dX8_takings_4 : decode cX8_takings 4 = .ok (.getfield 243, 3) := by decide +kernel
theorem dX8_takings_7 : decode cX8_takings 7 = .ok (.ireturn, 1) := by decide +kernel
set_option maxRecDepth 20000 in
theorem ggX8_cameIn_X8_requireLetter : GoodIn wsX8_cameIn wsX8_requireLetter := goodIn_ca (goodIn_r _ [6, 7, 8, 5, 9, 10, 11] (by decide +kernel) (by decide +kernel)) (goodIn_sub (fun _ h => List.mem_cons_of_mem _ (List.mem_append_right _ h)) (by decide +kernel))
set_option maxRecDepth 20000 in
theorem gX8_cameIn_X8_requireLetter : GoodIn wsX8_cameIn (va_wsS RX8 134 yX8_requireLetter wsX8_requireLetter) := goodIn_app (goodIn_of _ (by decide +kernel)) ggX8_cameIn_X8_requireLetter
set_option maxRecDepth 20000 in
theorem ggX8_cameIn_X2_count : GoodIn wsX8_cameIn wsX2_count := goodIn_r _ [16, 17, 27] (by decide +kernel) (by decide +kernel)
set_option maxRecDepth 20000 in
theorem gX8_cameIn_X2_count : GoodIn wsX8_cameIn (wsV RX8 138 RX2 yX2_count wsX2_count) := goodIn_app (goodIn_of _ (by decide +kernel)) ggX8_cameIn_X2_count
theorem dX8_cameIn_0 : decode cX8_cameIn 0 = .ok (.iload_n 1, 1) := by decide +kernel
theorem dX8_cameIn_1 : decode cX8_cameIn 1 = .ok (.invokestatic 134, 3) := by decide +kernel
theorem dX8_cameIn_4 : decode cX8_cameIn 4 = .ok (.aload_n 0, 1) := by decide +kernel
theorem dX8_cameIn_5 : decode cX8_cameIn 5 = .ok (.getfield 26, 3) := by decide +kernel
theorem dX8_cameIn_8 : decode cX8_cameIn 8 = .ok (.getfield 128, 3) := by decide +kernel
theorem dX8_cameIn_11 : decode cX8_cameIn 11 = .ok (.iload_n 1, 1) := by decide +kernel
theorem dX8_cameIn_12 : decode cX8_cameIn 12 = .ok (.invokevirtual 138, 3) := by decide +kernel
theorem dX8_cameIn_15 : decode cX8_cameIn 15 = .ok (.ireturn, 1) := by decide +kernel
set_option maxRecDepth 20000 in
theorem ggX8_soldPieces_X8_requireLetter : GoodIn wsX8_soldPieces wsX8_requireLetter := goodIn_ca (goodIn_r _ [6, 7, 8, 5, 9, 10, 11] (by decide +kernel) (by decide +kernel)) (goodIn_sub (fun _ h => List.mem_cons_of_mem _ (List.mem_append_right _ h)) (by decide +kernel))
set_option maxRecDepth 20000 in
theorem gX8_soldPieces_X8_requireLetter : GoodIn wsX8_soldPieces (va_wsS RX8 134 yX8_requireLetter wsX8_requireLetter) := goodIn_app (goodIn_of _ (by decide +kernel)) ggX8_soldPieces_X8_requireLetter
set_option maxRecDepth 20000 in
theorem ggX8_soldPieces_X2_count : GoodIn wsX8_soldPieces wsX2_count := goodIn_r _ [16, 17, 27] (by decide +kernel) (by decide +kernel)
set_option maxRecDepth 20000 in
theorem gX8_soldPieces_X2_count : GoodIn wsX8_soldPieces (wsV RX8 138 RX2 yX2_count wsX2_count) := goodIn_app (goodIn_of _ (by decide +kernel)) ggX8_soldPieces_X2_count
theorem dX8_soldPieces_0 : decode cX8_soldPieces 0 = .ok (.iload_n 1, 1) := by decide +kernel
theorem dX8_soldPieces_1 : decode cX8_soldPieces 1 = .ok (.invokestatic 134, 3) := by decide +kernel
theorem dX8_soldPieces_4 : decode cX8_soldPieces 4 = .ok (.aload_n 0, 1) := by decide +kernel
theorem dX8_soldPieces_5 : decode cX8_soldPieces 5 = .ok (.getfield 26, 3) := by decide +kernel
theorem dX8_soldPieces_8 : decode cX8_soldPieces 8 = .ok (.getfield 246, 3) := by decide +kernel
theorem dX8_soldPieces_11 : decode cX8_soldPieces 11 = .ok (.iload_n 1, 1) := by decide +kernel
theorem dX8_soldPieces_12 : decode cX8_soldPieces 12 = .ok (.invokevirtual 138, 3) := by decide +kernel
theorem dX8_soldPieces_15 : decode cX8_soldPieces 15 = .ok (.ireturn, 1) := by decide +kernel
set_option maxRecDepth 20000 in
theorem ggX8_reasonAgainst_X1_contains : GoodIn wsX8_reasonAgainst wsX1_contains := goodIn_r _ [8, 9, 10, 11, 12, 7, 13, 14, 15, 16, 17, 18, 19, 20, 21, 22, 23, 24, 25, 26, 27, 28, 29, 30, 31, 89, 90, 91, 92, 93] (by decide +kernel) (by decide +kernel)
set_option maxRecDepth 20000 in
theorem gX8_reasonAgainst_X1_contains : GoodIn wsX8_reasonAgainst (wsV RX8 48 RX1 yX1_contains wsX1_contains) := goodIn_app (goodIn_of _ (by decide +kernel)) ggX8_reasonAgainst_X1_contains
set_option maxRecDepth 20000 in
theorem ggX8_reasonAgainst_X2_holds : GoodIn wsX8_reasonAgainst wsX2_holds := goodIn_r _ [36, 37, 38, 39, 35, 40, 41, 42, 19, 16, 20, 43, 44, 45, 46, 47, 48, 49, 94] (by decide +kernel) (by decide +kernel)
set_option maxRecDepth 20000 in
theorem gX8_reasonAgainst_X2_holds : GoodIn wsX8_reasonAgainst (wsV RX8 155 RX2 yX2_holds wsX2_holds) := goodIn_app (goodIn_of _ (by decide +kernel)) ggX8_reasonAgainst_X2_holds
set_option maxRecDepth 20000 in
theorem ggX8_reasonAgainst_X5_weigh : GoodIn wsX8_reasonAgainst wsX5_weigh := goodIn_r _ [54, 55, 56, 57, 19, 16, 20, 58, 44, 45, 59, 60, 61, 53, 62, 63, 64, 65, 66, 67, 68, 69, 70, 71, 72, 73, 74, 35, 75, 41, 76, 77, 78, 79, 80, 47, 48, 49, 42, 43, 86, 87, 88, 94] (by decide +kernel) (by decide +kernel)
set_option maxRecDepth 20000 in
theorem gX8_reasonAgainst_X5_weigh : GoodIn wsX8_reasonAgainst (wsV RX8 160 RX5 yX5_weigh wsX5_weigh) := goodIn_app (goodIn_of _ (by decide +kernel)) ggX8_reasonAgainst_X5_weigh
theorem dX8_reasonAgainst_0 : decode cX8_reasonAgainst 0 = .ok (.aload_n 0, 1) := by decide +kernel
theorem dX8_reasonAgainst_1 : decode cX8_reasonAgainst 1 = .ok (.getfield 10, 3) := by decide +kernel
theorem dX8_reasonAgainst_4 : decode cX8_reasonAgainst 4 = .ok (.lload_n 1, 1) := by decide +kernel
theorem dX8_reasonAgainst_5 : decode cX8_reasonAgainst 5 = .ok (.invokevirtual 48, 3) := by decide +kernel
theorem dX8_reasonAgainst_8 : decode cX8_reasonAgainst 8 = .ok (.ifCond .ne 5, 3) := by decide +kernel
theorem dX8_reasonAgainst_11 : decode cX8_reasonAgainst 11 = .ok (.iconst 1, 1) := by decide +kernel
theorem dX8_reasonAgainst_12 : decode cX8_reasonAgainst 12 = .ok (.ireturn, 1) := by decide +kernel
theorem dX8_reasonAgainst_13 : decode cX8_reasonAgainst 13 = .ok (.aload_n 0, 1) := by decide +kernel
theorem dX8_reasonAgainst_14 : decode cX8_reasonAgainst 14 = .ok (.getfield 19, 3) := by decide +kernel
theorem dX8_reasonAgainst_17 : decode cX8_reasonAgainst 17 = .ok (.getfield 122, 3) := by decide +kernel
theorem dX8_reasonAgainst_20 : decode cX8_reasonAgainst 20 = .ok (.lload_n 1, 1) := by decide +kernel
theorem dX8_reasonAgainst_21 : decode cX8_reasonAgainst 21 = .ok (.invokevirtual 155, 3) := by decide +kernel
theorem dX8_reasonAgainst_24 : decode cX8_reasonAgainst 24 = .ok (.ifCond .ne 5, 3) := by decide +kernel
theorem dX8_reasonAgainst_27 : decode cX8_reasonAgainst 27 = .ok (.iconst 2, 1) := by decide +kernel
theorem dX8_reasonAgainst_28 : decode cX8_reasonAgainst 28 = .ok (.ireturn, 1) := by decide +kernel
theorem dX8_reasonAgainst_29 : decode cX8_reasonAgainst 29 = .ok (.aload_n 0, 1) := by decide +kernel
theorem dX8_reasonAgainst_30 : decode cX8_reasonAgainst 30 = .ok (.getfield 19, 3) := by decide +kernel
theorem dX8_reasonAgainst_33 : decode cX8_reasonAgainst 33 = .ok (.lload_n 1, 1) := by decide +kernel
theorem dX8_reasonAgainst_34 : decode cX8_reasonAgainst 34 = .ok (.invokevirtual 160, 3) := by decide +kernel
theorem dX8_reasonAgainst_37 : decode cX8_reasonAgainst 37 = .ok (.iload_n 3, 1) := by decide +kernel
theorem dX8_reasonAgainst_38 : decode cX8_reasonAgainst 38 = .ok (.if_icmp .le 7, 3) := by decide +kernel
theorem dX8_reasonAgainst_41 : decode cX8_reasonAgainst 41 = .ok (.iconst 3, 1) := by decide +kernel
theorem dX8_reasonAgainst_42 : decode cX8_reasonAgainst 42 = .ok (.goto 4, 3) := by decide +kernel
theorem dX8_reasonAgainst_45 : decode cX8_reasonAgainst 45 = .ok (.iconst 0, 1) := by decide +kernel
theorem dX8_reasonAgainst_46 : decode cX8_reasonAgainst 46 = .ok (.ireturn, 1) := by decide +kernel
set_option maxRecDepth 20000 in
theorem ggX8_bestFor_X1_words : GoodIn wsX8_bestFor wsX1_words := goodIn_r _ [7, 8, 83, 84, 85] (by decide +kernel) (by decide +kernel)
set_option maxRecDepth 20000 in
theorem gX8_bestFor_X1_words : GoodIn wsX8_bestFor (wsV RX8 59 RX1 yX1_words wsX1_words) := goodIn_app (goodIn_of _ (by decide +kernel)) ggX8_bestFor_X1_words
set_option maxRecDepth 20000 in
theorem ggX8_bestFor_X6_size : GoodIn wsX8_bestFor wsX6_size := goodIn_r _ [13, 14, 86, 87] (by decide +kernel) (by decide +kernel)
set_option maxRecDepth 20000 in
theorem gX8_bestFor_X6_size : GoodIn wsX8_bestFor (wsV RX8 74 RX6 yX6_size wsX6_size) := goodIn_app (goodIn_of _ (by decide +kernel)) ggX8_bestFor_X6_size
set_option maxRecDepth 20000 in
theorem ggX8_bestFor_X6_word : GoodIn wsX8_bestFor wsX6_word := goodIn_r _ [18, 14, 19, 86, 87] (by decide +kernel) (by decide +kernel)
set_option maxRecDepth 20000 in
theorem gX8_bestFor_X6_word : GoodIn wsX8_bestFor (wsV RX8 94 RX6 yX6_word wsX6_word) := goodIn_app (goodIn_of _ (by decide +kernel)) ggX8_bestFor_X6_word
set_option maxRecDepth 20000 in
theorem ggX8_bestFor_X7_lengthOf : GoodIn wsX8_bestFor wsX7_lengthOf := goodIn_r _ [23] (by decide +kernel) (by decide +kernel)
set_option maxRecDepth 20000 in
theorem gX8_bestFor_X7_lengthOf : GoodIn wsX8_bestFor (va_wsS RX8 202 yX7_lengthOf wsX7_lengthOf) := goodIn_app (goodIn_of _ (by decide +kernel)) ggX8_bestFor_X7_lengthOf
set_option maxRecDepth 20000 in
theorem ggX8_bestFor_X5_canSell : GoodIn wsX8_bestFor wsX5_canSell := goodIn_r _ [28, 29, 30, 31, 32, 33, 34, 35, 36, 37, 38, 39, 40, 21, 22, 23, 41, 42, 43, 44, 45, 46, 47, 48, 49, 50, 27, 51, 52, 53, 54, 55, 56, 57, 58, 59, 60, 61, 62, 63, 64, 65, 66, 67, 68, 69, 70, 71, 72, 73, 74, 75, 76, 88, 89, 90, 91] (by decide +kernel) (by decide +kernel)
set_option maxRecDepth 20000 in
theorem gX8_bestFor_X5_canSell : GoodIn wsX8_bestFor (wsV RX8 181 RX5 yX5_canSell wsX5_canSell) := goodIn_app (goodIn_of _ (by decide +kernel)) ggX8_bestFor_X5_canSell
set_option maxRecDepth 20000 in
theorem ggX8_bestFor_X5_weigh : GoodIn wsX8_bestFor wsX5_weigh := goodIn_r _ [51, 52, 29, 53, 21, 22, 23, 54, 42, 43, 55, 56, 57, 27, 58, 59, 60, 61, 62, 63, 64, 65, 66, 67, 68, 69, 70, 33, 71, 39, 72, 73, 74, 75, 76, 45, 46, 47, 40, 41, 88, 89, 90, 91] (by decide +kernel) (by decide +kernel)
set_option maxRecDepth 20000 in
theorem gX8_bestFor_X5_weigh : GoodIn wsX8_bestFor (wsV RX8 160 RX5 yX5_weigh wsX5_weigh) := goodIn_app (goodIn_of _ (by decide +kernel)) ggX8_bestFor_X5_weigh
theorem dX8_bestFor_0 : decode cX8_bestFor 0 = .ok (.lconst 0, 1) := by decide +kernel
theorem dX8_bestFor_1 : decode cX8_bestFor 1 = .ok (.lstore_n 2, 1) := by decide +kernel
theorem dX8_bestFor_2 : decode cX8_bestFor 2 = .ok (.iconst 0, 1) := by decide +kernel
theorem dX8_bestFor_3 : decode cX8_bestFor 3 = .ok (.istore 4, 2) := by decide +kernel
theorem dX8_bestFor_5 : decode cX8_bestFor 5 = .ok (.iconst 0, 1) := by decide +kernel
theorem dX8_bestFor_6 : decode cX8_bestFor 6 = .ok (.istore 5, 2) := by decide +kernel
theorem dX8_bestFor_8 : decode cX8_bestFor 8 = .ok (.iconst 0, 1) := by decide +kernel
theorem dX8_bestFor_9 : decode cX8_bestFor 9 = .ok (.istore 6, 2) := by decide +kernel
theorem dX8_bestFor_11 : decode cX8_bestFor 11 = .ok (.iload 6, 2) := by decide +kernel
theorem dX8_bestFor_13 : decode cX8_bestFor 13 = .ok (.aload_n 0, 1) := by decide +kernel
theorem dX8_bestFor_14 : decode cX8_bestFor 14 = .ok (.getfield 10, 3) := by decide +kernel
theorem dX8_bestFor_17 : decode cX8_bestFor 17 = .ok (.invokevirtual 59, 3) := by decide +kernel
theorem dX8_bestFor_20 : decode cX8_bestFor 20 = .ok (.invokevirtual 74, 3) := by decide +kernel
theorem dX8_bestFor_23 : decode cX8_bestFor 23 = .ok (.if_icmp .ge 86, 3) := by decide +kernel
theorem dX8_bestFor_26 : decode cX8_bestFor 26 = .ok (.aload_n 0, 1) := by decide +kernel
theorem dX8_bestFor_27 : decode cX8_bestFor 27 = .ok (.getfield 10, 3) := by decide +kernel
theorem dX8_bestFor_30 : decode cX8_bestFor 30 = .ok (.invokevirtual 59, 3) := by decide +kernel
theorem dX8_bestFor_33 : decode cX8_bestFor 33 = .ok (.iload 6, 2) := by decide +kernel
theorem dX8_bestFor_35 : decode cX8_bestFor 35 = .ok (.invokevirtual 94, 3) := by decide +kernel
theorem dX8_bestFor_38 : decode cX8_bestFor 38 = .ok (.lstore 7, 2) := by decide +kernel
theorem dX8_bestFor_40 : decode cX8_bestFor 40 = .ok (.lload 7, 2) := by decide +kernel
theorem dX8_bestFor_42 : decode cX8_bestFor 42 = .ok (.invokestatic 202, 3) := by decide +kernel
theorem dX8_bestFor_45 : decode cX8_bestFor 45 = .ok (.istore 9, 2) := by decide +kernel
theorem dX8_bestFor_47 : decode cX8_bestFor 47 = .ok (.iload 9, 2) := by decide +kernel
theorem dX8_bestFor_49 : decode cX8_bestFor 49 = .ok (.iload 4, 2) := by decide +kernel
theorem dX8_bestFor_51 : decode cX8_bestFor 51 = .ok (.if_icmp .lt 52, 3) := by decide +kernel
theorem dX8_bestFor_54 : decode cX8_bestFor 54 = .ok (.aload_n 0, 1) := by decide +kernel
theorem dX8_bestFor_55 : decode cX8_bestFor 55 = .ok (.getfield 19, 3) := by decide +kernel
theorem dX8_bestFor_58 : decode cX8_bestFor 58 = .ok (.lload 7, 2) := by decide +kernel
theorem dX8_bestFor_60 : decode cX8_bestFor 60 = .ok (.iload_n 1, 1) := by decide +kernel
theorem dX8_bestFor_61 : decode cX8_bestFor 61 = .ok (.invokevirtual 181, 3) := by decide +kernel
theorem dX8_bestFor_64 : decode cX8_bestFor 64 = .ok (.ifCond .eq 39, 3) := by decide +kernel
theorem dX8_bestFor_67 : decode cX8_bestFor 67 = .ok (.aload_n 0, 1) := by decide +kernel
theorem dX8_bestFor_68 : decode cX8_bestFor 68 = .ok (.getfield 19, 3) := by decide +kernel
theorem dX8_bestFor_71 : decode cX8_bestFor 71 = .ok (.lload 7, 2) := by decide +kernel
theorem dX8_bestFor_73 : decode cX8_bestFor 73 = .ok (.invokevirtual 160, 3) := by decide +kernel
theorem dX8_bestFor_76 : decode cX8_bestFor 76 = .ok (.istore 10, 2) := by decide +kernel
theorem dX8_bestFor_78 : decode cX8_bestFor 78 = .ok (.iload 9, 2) := by decide +kernel
theorem dX8_bestFor_80 : decode cX8_bestFor 80 = .ok (.iload 4, 2) := by decide +kernel
theorem dX8_bestFor_82 : decode cX8_bestFor 82 = .ok (.if_icmp .gt 10, 3) := by decide +kernel
theorem dX8_bestFor_85 : decode cX8_bestFor 85 = .ok (.iload 10, 2) := by decide +kernel
theorem dX8_bestFor_87 : decode cX8_bestFor 87 = .ok (.iload 5, 2) := by decide +kernel
theorem dX8_bestFor_89 : decode cX8_bestFor 89 = .ok (.if_icmp .ge 14, 3) := by decide +kernel
theorem dX8_bestFor_92 : decode cX8_bestFor 92 = .ok (.lload 7, 2) := by decide +kernel
theorem dX8_bestFor_94 : decode cX8_bestFor 94 = .ok (.lstore_n 2, 1) := by decide +kernel
theorem dX8_bestFor_95 : decode cX8_bestFor 95 = .ok (.iload 9, 2) := by decide +kernel
theorem dX8_bestFor_97 : decode cX8_bestFor 97 = .ok (.istore 4, 2) := by decide +kernel
theorem dX8_bestFor_99 : decode cX8_bestFor 99 = .ok (.iload 10, 2) := by decide +kernel
theorem dX8_bestFor_101 : decode cX8_bestFor 101 = .ok (.istore 5, 2) := by decide +kernel
theorem dX8_bestFor_103 : decode cX8_bestFor 103 = .ok (.iinc 6 1, 3) := by decide +kernel
theorem dX8_bestFor_106 : decode cX8_bestFor 106 = .ok (.goto (-95), 3) := by decide +kernel
theorem dX8_bestFor_109 : decode cX8_bestFor 109 = .ok (.lload_n 2, 1) := by decide +kernel
theorem dX8_bestFor_110 : decode cX8_bestFor 110 = .ok (.lreturn, 1) := by decide +kernel
set_option maxRecDepth 20000 in
theorem ggX8_handOver_X5_weigh : GoodIn wsX8_handOver wsX5_weigh := goodIn_r _ [8, 9, 10, 11, 12, 13, 14, 15, 16, 17, 18, 19, 20, 7, 21, 22, 23, 24, 25, 26, 27, 28, 29, 30, 31, 32, 33, 34, 35, 36, 37, 38, 39, 40, 41, 42, 43, 44, 45, 46, 129, 130, 131, 132] (by decide +kernel) (by decide +kernel)
set_option maxRecDepth 20000 in
theorem gX8_handOver_X5_weigh : GoodIn wsX8_handOver (wsV RX8 160 RX5 yX5_weigh wsX5_weigh) := goodIn_app (goodIn_of _ (by decide +kernel)) ggX8_handOver_X5_weigh
set_option maxRecDepth 20000 in
theorem ggX8_handOver_X2_take : GoodIn wsX8_handOver wsX2_take := goodIn_r _ [50, 36, 45, 12, 13, 14, 46, 16, 17, 132] (by decide +kernel) (by decide +kernel)
set_option maxRecDepth 20000 in
theorem gX8_handOver_X2_take : GoodIn wsX8_handOver (wsV RX8 249 RX2 yX2_take wsX2_take) := goodIn_app (goodIn_of _ (by decide +kernel)) ggX8_handOver_X2_take
set_option maxRecDepth 20000 in
theorem ggX8_handOver_X0_writeReceipt : GoodIn wsX8_handOver wsX0_writeReceipt := goodIn_r _ [55, 56, 57, 58, 59, 60, 61, 62, 63, 64, 65, 66, 67, 68, 69, 70, 71, 72, 73, 74, 75, 76, 77, 78, 79, 80, 81, 82, 83, 84, 85, 86, 87, 88, 89, 90, 91, 92, 23, 24, 25, 93, 94, 95, 96, 97, 98, 99, 100, 101, 102, 103, 104, 105, 106, 107, 108, 109, 110, 111, 112, 113, 114, 115, 116, 117, 118, 119, 120, 121, 122, 123, 42, 43, 34, 44, 36, 45, 12, 13, 14, 46, 16, 17, 133, 134, 135, 136, 137, 138, 139, 140, 141, 142, 132] (by decide +kernel) (by decide +kernel)
set_option maxRecDepth 20000 in
theorem gX8_handOver_X0_writeReceipt : GoodIn wsX8_handOver (wsV RX8 207 RX0 yX0_writeReceipt wsX0_writeReceipt) := goodIn_app (goodIn_of _ (by decide +kernel)) ggX8_handOver_X0_writeReceipt
theorem dX8_handOver_0 : decode cX8_handOver 0 = .ok (.aload_n 0, 1) := by decide +kernel
theorem dX8_handOver_1 : decode cX8_handOver 1 = .ok (.getfield 19, 3) := by decide +kernel
theorem dX8_handOver_4 : decode cX8_handOver 4 = .ok (.lload_n 1, 1) := by decide +kernel
theorem dX8_handOver_5 : decode cX8_handOver 5 = .ok (.invokevirtual 160, 3) := by decide +kernel
theorem dX8_handOver_8 : decode cX8_handOver 8 = .ok (.istore_n 3, 1) := by decide +kernel
theorem dX8_handOver_9 : decode cX8_handOver 9 = .ok (.aload_n 0, 1) := by decide +kernel
theorem dX8_handOver_10 : decode cX8_handOver 10 = .ok (.getfield 19, 3) := by decide +kernel
theorem dX8_handOver_13 : decode cX8_handOver 13 = .ok (.getfield 122, 3) := by decide +kernel
theorem dX8_handOver_16 : decode cX8_handOver 16 = .ok (.lload_n 1, 1) := by decide +kernel
theorem dX8_handOver_17 : decode cX8_handOver 17 = .ok (.invokevirtual 249, 3) := by decide +kernel
theorem dX8_handOver_20 : decode cX8_handOver 20 = .ok (.pop, 1) := by decide +kernel
theorem dX8_handOver_21 : decode cX8_handOver 21 = .ok (.aload_n 0, 1) := by decide +kernel
theorem dX8_handOver_22 : decode cX8_handOver 22 = .ok (.getfield 26, 3) := by decide +kernel
theorem dX8_handOver_25 : decode cX8_handOver 25 = .ok (.lload_n 1, 1) := by decide +kernel
theorem dX8_handOver_26 : decode cX8_handOver 26 = .ok (.iload_n 3, 1) := by decide +kernel
theorem dX8_handOver_27 : decode cX8_handOver 27 = .ok (.invokevirtual 207, 3) := by decide +kernel
theorem dX8_handOver_30 : decode cX8_handOver 30 = .ok (.iload_n 3, 1) := by decide +kernel
theorem dX8_handOver_31 : decode cX8_handOver 31 = .ok (.ireturn, 1) := by decide +kernel
set_option maxRecDepth 20000 in
theorem ggX8_makePlan_X8_requireWord : GoodIn wsX8_makePlan wsX8_requireWord := goodIn_ca (goodIn_r _ [6, 7, 8, 9, 10, 11, 12, 13, 14, 15, 16, 17, 18, 19] (by decide +kernel) (by decide +kernel)) (goodIn_sub (fun _ h => List.mem_cons_of_mem _ (List.mem_append_right _ h)) (by decide +kernel))
set_option maxRecDepth 20000 in
theorem gX8_makePlan_X8_requireWord : GoodIn wsX8_makePlan (va_wsS RX8 44 yX8_requireWord wsX8_requireWord) := goodIn_app (goodIn_of _ (by decide +kernel)) ggX8_makePlan_X8_requireWord
set_option maxRecDepth 20000 in
theorem ggX8_makePlan_X8_requireRange : GoodIn wsX8_makePlan wsX8_requireRange := goodIn_ca (goodIn_r _ [22, 7, 8] (by decide +kernel) (by decide +kernel)) (goodIn_sub (fun _ h => List.mem_cons_of_mem _ (List.mem_append_right _ h)) (by decide +kernel))
set_option maxRecDepth 20000 in
theorem gX8_makePlan_X8_requireRange : GoodIn wsX8_makePlan (va_wsS RX8 107 yX8_requireRange wsX8_requireRange) := goodIn_app (goodIn_of _ (by decide +kernel)) ggX8_makePlan_X8_requireRange
set_option maxRecDepth 20000 in
theorem ggX8_makePlan_X1_fitting : GoodIn wsX8_makePlan wsX1_fitting := goodIn_r _ [27, 28, 29, 30, 26, 31, 32, 33, 34, 35, 36, 37, 38, 39, 40, 41, 42, 43, 44, 45, 15, 11, 16, 46, 18, 19, 47, 48, 49, 50, 51, 52, 53, 54, 55, 56, 57, 58, 59, 60, 61, 62, 63, 64, 65, 66, 67, 68, 69, 70, 71, 72, 73, 74, 75, 76, 77, 78, 79, 126, 127, 128, 129, 130, 131] (by decide +kernel) (by decide +kernel)
set_option maxRecDepth 20000 in
theorem gX8_makePlan_X1_fitting : GoodIn wsX8_makePlan (wsV RX8 104 RX1 yX1_fitting wsX1_fitting) := goodIn_app (goodIn_of _ (by decide +kernel)) ggX8_makePlan_X1_fitting
set_option maxRecDepth 20000 in
theorem ggX8_makePlan_X3_plan : GoodIn wsX8_makePlan wsX3_plan := goodIn_r _ [84, 85, 86, 87, 88, 89, 36, 37, 38, 39, 40, 90, 42, 43, 44, 45, 15, 11, 16, 46, 18, 19, 91, 48, 49, 50, 51, 52, 92, 93, 83, 94, 95, 96, 97, 98, 99, 54, 55, 56, 100, 58, 59, 60, 61, 101, 102, 103, 104, 105, 106, 107, 108, 109, 110, 111, 68, 69, 70, 112, 73, 74, 75, 76, 77, 78, 79, 113, 114, 115, 116, 117, 118, 119, 120, 132, 133, 134, 135, 136, 129, 130, 131] (by decide +kernel) (by decide +kernel)
set_option maxRecDepth 20000 in
theorem gX8_makePlan_X3_plan : GoodIn wsX8_makePlan (wsV RX8 252 RX3 yX3_plan wsX3_plan) := goodIn_app (goodIn_of _ (by decide +kernel)) ggX8_makePlan_X3_plan
theorem dX8_makePlan_0 : decode cX8_makePlan 0 = .ok (.lload_n 1, 1) := by decide +kernel
theorem dX8_makePlan_1 : decode cX8_makePlan 1 = .ok (.invokestatic 44, 3) := by decide +kernel
theorem dX8_makePlan_4 : decode cX8_makePlan 4 = .ok (.iload_n 3, 1) := by decide +kernel
theorem dX8_makePlan_5 : decode cX8_makePlan 5 = .ok (.iconst 1, 1) := by decide +kernel
theorem dX8_makePlan_6 : decode cX8_makePlan 6 = .ok (.iconst 3, 1) := by decide +kernel
theorem dX8_makePlan_7 : decode cX8_makePlan 7 = .ok (.invokestatic 107, 3) := by decide +kernel
theorem dX8_makePlan_10 : decode cX8_makePlan 10 = .ok (.aload_n 0, 1) := by decide +kernel
theorem dX8_makePlan_11 : decode cX8_makePlan 11 = .ok (.getfield 33, 3) := by decide +kernel
theorem dX8_makePlan_14 : decode cX8_makePlan 14 = .ok (.aload_n 0, 1) := by decide +kernel
theorem dX8_makePlan_15 : decode cX8_makePlan 15 = .ok (.getfield 10, 3) := by decide +kernel
theorem dX8_makePlan_18 : decode cX8_makePlan 18 = .ok (.lload_n 1, 1) := by decide +kernel
theorem dX8_makePlan_19 : decode cX8_makePlan 19 = .ok (.invokevirtual 104, 3) := by decide +kernel
theorem dX8_makePlan_22 : decode cX8_makePlan 22 = .ok (.lload_n 1, 1) := by decide +kernel
theorem dX8_makePlan_23 : decode cX8_makePlan 23 = .ok (.iload_n 3, 1) := by decide +kernel
theorem dX8_makePlan_24 : decode cX8_makePlan 24 = .ok (.invokevirtual 252, 3) := by decide +kernel
theorem dX8_makePlan_27 : decode cX8_makePlan 27 = .ok (.return_, 1) := by decide +kernel
set_option maxRecDepth 20000 in
theorem ggX8_requireRoom_X5_hasRoomFor : GoodIn wsX8_requireRoom wsX5_hasRoomFor := goodIn_r _ [8, 9, 10, 11, 12, 13, 14, 15, 21, 22, 23, 24] (by decide +kernel) (by decide +kernel)
set_option maxRecDepth 20000 in
theorem gX8_requireRoom_X5_hasRoomFor : GoodIn wsX8_requireRoom (wsV RX8 256 RX5 yX5_hasRoomFor wsX5_hasRoomFor) := goodIn_app (goodIn_of _ (by decide +kernel)) ggX8_requireRoom_X5_hasRoomFor
theorem dX8_requireRoom_0 : decode cX8_requireRoom 0 = .ok (.aload_n 0, 1) := by decide +kernel
theorem dX8_requireRoom_1 : decode cX8_requireRoom 1 = .ok (.getfield 19, 3) := by decide +kernel
theorem dX8_requireRoom_4 : decode cX8_requireRoom 4 = .ok (.aload_n 1, 1) := by decide +kernel
theorem dX8_requireRoom_5 : decode cX8_requireRoom 5 = .ok (.invokevirtual 256, 3) := by decide +kernel
theorem dX8_requireRoom_8 : decode cX8_requireRoom 8 = .ok (.ifCond .ne 14, 3) := by decide +kernel
theorem dX8_requireRoom_11 : decode cX8_requireRoom 11 = .ok (.new 52, 3) := by decide +kernel
theorem dX8_requireRoom_14 : decode cX8_requireRoom 14 = .ok (.dup, 1) := by decide +kernel
theorem dX8_requireRoom_15 : decode cX8_requireRoom 15 = .ok (.ldc_w 259, 3) := by decide +kernel
theorem dX8_requireRoom_18 : decode cX8_requireRoom 18 = .ok (.invokespecial 56, 3) := by decide +kernel
theorem dX8_requireRoom_21 : decode cX8_requireRoom 21 = .ok (.athrow, 1) := by decide +kernel
theorem dX8_requireRoom_22 : decode cX8_requireRoom 22 = .ok (.return_, 1) := by decide +kernel
set_option maxRecDepth 20000 in
theorem ggX8_requireReceipts_X0_hasRoomFor : GoodIn wsX8_requireReceipts wsX0_hasRoomFor := goodIn_r _ [8, 9, 10, 11, 12, 13, 14, 15, 21, 22, 23, 24, 25, 26, 27] (by decide +kernel) (by decide +kernel)
set_option maxRecDepth 20000 in
theorem gX8_requireReceipts_X0_hasRoomFor : GoodIn wsX8_requireReceipts (wsV RX8 188 RX0 yX0_hasRoomFor wsX0_hasRoomFor) := goodIn_app (goodIn_of _ (by decide +kernel)) ggX8_requireReceipts_X0_hasRoomFor
theorem dX8_requireReceipts_0 : decode cX8_requireReceipts 0 = .ok (.aload_n 0, 1) := by decide +kernel
theorem dX8_requireReceipts_1 : decode cX8_requireReceipts 1 = .ok (.getfield 26, 3) := by decide +kernel
theorem dX8_requireReceipts_4 : decode cX8_requireReceipts 4 = .ok (.iload_n 1, 1) := by decide +kernel
theorem dX8_requireReceipts_5 : decode cX8_requireReceipts 5 = .ok (.invokevirtual 188, 3) := by decide +kernel
theorem dX8_requireReceipts_8 : decode cX8_requireReceipts 8 = .ok (.ifCond .ne 14, 3) := by decide +kernel
theorem dX8_requireReceipts_11 : decode cX8_requireReceipts 11 = .ok (.new 52, 3) := by decide +kernel
theorem dX8_requireReceipts_14 : decode cX8_requireReceipts 14 = .ok (.dup, 1) := by decide +kernel
theorem dX8_requireReceipts_15 : decode cX8_requireReceipts 15 = .ok (.ldc_w 261, 3) := by decide +kernel
theorem dX8_requireReceipts_18 : decode cX8_requireReceipts 18 = .ok (.invokespecial 56, 3) := by decide +kernel
theorem dX8_requireReceipts_21 : decode cX8_requireReceipts 21 = .ok (.athrow, 1) := by decide +kernel
theorem dX8_requireReceipts_22 : decode cX8_requireReceipts 22 = .ok (.return_, 1) := by decide +kernel
set_option maxRecDepth 20000 in
theorem ggX8_requireReceipt_Jx4a65c_size_8abf5 : GoodIn wsX8_requireReceipt wsJx4a65c_size_8abf5 := goodIn_r _ [10, 11, 38, 39, 40] (by decide +kernel) (by decide +kernel)
set_option maxRecDepth 20000 in
theorem gX8_requireReceipt_Jx4a65c_size_8abf5_f214Jx4a65c : GoodIn wsX8_requireReceipt (va_wsF RX8 214 RJx4a65c ⟨"java/util/List", "size", "()I"⟩ yJx4a65c_size_8abf5 wsJx4a65c_size_8abf5) := goodIn_app (goodIn_of _ (by decide +kernel)) ggX8_requireReceipt_Jx4a65c_size_8abf5
set_option maxRecDepth 20000 in
theorem ggX8_requireReceipt_Jx4a65c_get_915e3 : GoodIn wsX8_requireReceipt wsJx4a65c_get_915e3 := goodIn_r _ [15, 11, 16, 17, 18, 19, 20, 21, 22, 23, 24, 25, 26, 9, 27, 28, 38, 39, 40] (by decide +kernel) (by decide +kernel)
set_option maxRecDepth 20000 in
theorem gX8_requireReceipt_Jx4a65c_get_915e3_f268Jx4a65c : GoodIn wsX8_requireReceipt (va_wsF RX8 268 RJx4a65c ⟨"java/util/List", "get", "(I)Ljava/lang/Object;"⟩ yJx4a65c_get_915e3 wsJx4a65c_get_915e3) := goodIn_app (goodIn_of _ (by decide +kernel)) ggX8_requireReceipt_Jx4a65c_get_915e3
theorem dX8_requireReceipt_0 : decode cX8_requireReceipt 0 = .ok (.iload_n 1, 1) := by decide +kernel
theorem dX8_requireReceipt_1 : decode cX8_requireReceipt 1 = .ok (.ifCond .lt 19, 3) := by decide +kernel
theorem dX8_requireReceipt_4 : decode cX8_requireReceipt 4 = .ok (.iload_n 1, 1) := by decide +kernel
theorem dX8_requireReceipt_5 : decode cX8_requireReceipt 5 = .ok (.aload_n 0, 1) := by decide +kernel
theorem dX8_requireReceipt_6 : decode cX8_requireReceipt 6 = .ok (.getfield 26, 3) := by decide +kernel
theorem dX8_requireReceipt_9 : decode cX8_requireReceipt 9 = .ok (.getfield 210, 3) := by decide +kernel
theorem dX8_requireReceipt_12 : decode cX8_requireReceipt 12 = .ok (.invokeinterface 214 1, 5) := by decide +kernel
theorem dX8_requireReceipt_17 : decode cX8_requireReceipt 17 = .ok (.if_icmp .lt 14, 3) := by decide +kernel
theorem dX8_requireReceipt_20 : decode cX8_requireReceipt 20 = .ok (.new 263, 3) := by decide +kernel
theorem dX8_requireReceipt_23 : decode cX8_requireReceipt 23 = .ok (.dup, 1) := by decide +kernel
theorem dX8_requireReceipt_24 : decode cX8_requireReceipt 24 = .ok (.ldc_w 265, 3) := by decide +kernel
theorem dX8_requireReceipt_27 : decode cX8_requireReceipt 27 = .ok (.invokespecial 267, 3) := by decide +kernel
theorem dX8_requireReceipt_30 : decode cX8_requireReceipt 30 = .ok (.athrow, 1) := by decide +kernel
theorem dX8_requireReceipt_31 : decode cX8_requireReceipt 31 = .ok (.aload_n 0, 1) := by decide +kernel
theorem dX8_requireReceipt_32 : decode cX8_requireReceipt 32 = .ok (.getfield 26, 3) := by decide +kernel
theorem dX8_requireReceipt_35 : decode cX8_requireReceipt 35 = .ok (.getfield 210, 3) := by decide +kernel
theorem dX8_requireReceipt_38 : decode cX8_requireReceipt 38 = .ok (.iload_n 1, 1) := by decide +kernel
theorem dX8_requireReceipt_39 : decode cX8_requireReceipt 39 = .ok (.invokeinterface 268 2, 5) := by decide +kernel
theorem dX8_requireReceipt_44 : decode cX8_requireReceipt 44 = .ok (.checkcast 222, 3) := by decide +kernel
theorem dX8_requireReceipt_47 : decode cX8_requireReceipt 47 = .ok (.areturn, 1) := by decide +kernel
set_option maxRecDepth 20000 in
theorem ggX8_requireWord_X7_isWord : GoodIn wsX8_requireWord wsX7_isWord := goodIn_r _ [6, 7, 8, 9, 5, 10, 11, 12, 13] (by decide +kernel) (by decide +kernel)
set_option maxRecDepth 20000 in
theorem gX8_requireWord_X7_isWord : GoodIn wsX8_requireWord (va_wsS RX8 272 yX7_isWord wsX7_isWord) := goodIn_app (goodIn_of _ (by decide +kernel)) ggX8_requireWord_X7_isWord
theorem dX8_requireWord_0 : decode cX8_requireWord 0 = .ok (.lload_n 0, 1) := by decide +kernel
theorem dX8_requireWord_1 : decode cX8_requireWord 1 = .ok (.invokestatic 272, 3) := by decide +kernel
theorem dX8_requireWord_4 : decode cX8_requireWord 4 = .ok (.ifCond .ne 14, 3) := by decide +kernel
theorem dX8_requireWord_7 : decode cX8_requireWord 7 = .ok (.new 275, 3) := by decide +kernel
theorem dX8_requireWord_10 : decode cX8_requireWord 10 = .ok (.dup, 1) := by decide +kernel
theorem dX8_requireWord_11 : decode cX8_requireWord 11 = .ok (.ldc_w 277, 3) := by decide +kernel
theorem dX8_requireWord_14 : decode cX8_requireWord 14 = .ok (.invokespecial 279, 3) := by decide +kernel
theorem dX8_requireWord_17 : decode cX8_requireWord 17 = .ok (.athrow, 1) := by decide +kernel
theorem dX8_requireWord_18 : decode cX8_requireWord 18 = .ok (.return_, 1) := by decide +kernel
set_option maxRecDepth 20000 in
theorem ggX8_requireLetter_X8_requireRange : GoodIn wsX8_requireLetter wsX8_requireRange := goodIn_ca (goodIn_r _ [4, 5, 6] (by decide +kernel) (by decide +kernel)) (goodIn_sub (fun _ h => List.mem_cons_of_mem _ (List.mem_append_right _ h)) (by decide +kernel))
set_option maxRecDepth 20000 in
theorem gX8_requireLetter_X8_requireRange : GoodIn wsX8_requireLetter (va_wsS RX8 107 yX8_requireRange wsX8_requireRange) := goodIn_app (goodIn_of _ (by decide +kernel)) ggX8_requireLetter_X8_requireRange
theorem dX8_requireLetter_0 : decode cX8_requireLetter 0 = .ok (.iload_n 0, 1) := by decide +kernel
theorem dX8_requireLetter_1 : decode cX8_requireLetter 1 = .ok (.iconst 1, 1) := by decide +kernel
theorem dX8_requireLetter_2 : decode cX8_requireLetter 2 = .ok (.bipush 26, 2) := by decide +kernel
theorem dX8_requireLetter_4 : decode cX8_requireLetter 4 = .ok (.invokestatic 107, 3) := by decide +kernel
theorem dX8_requireLetter_7 : decode cX8_requireLetter 7 = .ok (.return_, 1) := by decide +kernel
set_option maxRecDepth 20000 in
theorem ggX8_requireBudget_X8_requireRange : GoodIn wsX8_requireBudget wsX8_requireRange := goodIn_ca (goodIn_r _ [5, 6, 7] (by decide +kernel) (by decide +kernel)) (goodIn_sub (fun _ h => List.mem_cons_of_mem _ (List.mem_append_right _ h)) (by decide +kernel))
set_option maxRecDepth 20000 in
theorem gX8_requireBudget_X8_requireRange : GoodIn wsX8_requireBudget (va_wsS RX8 107 yX8_requireRange wsX8_requireRange) := goodIn_app (goodIn_of _ (by decide +kernel)) ggX8_requireBudget_X8_requireRange
theorem dX8_requireBudget_0 : decode cX8_requireBudget 0 = .ok (.iload_n 0, 1) := by decide +kernel
theorem dX8_requireBudget_1 : decode cX8_requireBudget 1 = .ok (.iconst 0, 1) := by decide +kernel
theorem dX8_requireBudget_2 : decode cX8_requireBudget 2 = .ok (.ldc_w 280, 3) := by decide +kernel
theorem dX8_requireBudget_5 : decode cX8_requireBudget 5 = .ok (.invokestatic 107, 3) := by decide +kernel
theorem dX8_requireBudget_8 : decode cX8_requireBudget 8 = .ok (.return_, 1) := by decide +kernel
theorem dX8_requireRange_0 : decode cX8_requireRange 0 = .ok (.iload_n 0, 1) := by decide +kernel
theorem dX8_requireRange_1 : decode cX8_requireRange 1 = .ok (.iload_n 1, 1) := by decide +kernel
theorem dX8_requireRange_2 : decode cX8_requireRange 2 = .ok (.if_icmp .lt 8, 3) := by decide +kernel
theorem dX8_requireRange_5 : decode cX8_requireRange 5 = .ok (.iload_n 0, 1) := by decide +kernel
theorem dX8_requireRange_6 : decode cX8_requireRange 6 = .ok (.iload_n 2, 1) := by decide +kernel
theorem dX8_requireRange_7 : decode cX8_requireRange 7 = .ok (.if_icmp .le 14, 3) := by decide +kernel
theorem dX8_requireRange_10 : decode cX8_requireRange 10 = .ok (.new 275, 3) := by decide +kernel
theorem dX8_requireRange_13 : decode cX8_requireRange 13 = .ok (.dup, 1) := by decide +kernel
theorem dX8_requireRange_14 : decode cX8_requireRange 14 = .ok (.ldc_w 281, 3) := by decide +kernel
theorem dX8_requireRange_17 : decode cX8_requireRange 17 = .ok (.invokespecial 279, 3) := by decide +kernel
theorem dX8_requireRange_20 : decode cX8_requireRange 20 = .ok (.athrow, 1) := by decide +kernel
theorem dX8_requireRange_21 : decode cX8_requireRange 21 = .ok (.return_, 1) := by decide +kernel
set_option maxRecDepth 20000 in
theorem ggX8_requireWordOf_X6_size : GoodIn wsX8_requireWordOf wsX6_size := goodIn_r _ [7, 8, 14, 15] (by decide +kernel) (by decide +kernel)
set_option maxRecDepth 20000 in
theorem gX8_requireWordOf_X6_size : GoodIn wsX8_requireWordOf (wsV RX8 74 RX6 yX6_size wsX6_size) := goodIn_app (goodIn_of _ (by decide +kernel)) ggX8_requireWordOf_X6_size
set_option maxRecDepth 20000 in
theorem ggX8_requireWordOf_X6_word : GoodIn wsX8_requireWordOf wsX6_word := goodIn_r _ [12, 8, 13, 14, 15] (by decide +kernel) (by decide +kernel)
set_option maxRecDepth 20000 in
theorem gX8_requireWordOf_X6_word : GoodIn wsX8_requireWordOf (wsV RX8 94 RX6 yX6_word wsX6_word) := goodIn_app (goodIn_of _ (by decide +kernel)) ggX8_requireWordOf_X6_word
theorem dX8_requireWordOf_0 : decode cX8_requireWordOf 0 = .ok (.iload_n 1, 1) := by decide +kernel
theorem dX8_requireWordOf_1 : decode cX8_requireWordOf 1 = .ok (.ifCond .lt 11, 3) := by decide +kernel
theorem dX8_requireWordOf_4 : decode cX8_requireWordOf 4 = .ok (.iload_n 1, 1) := by decide +kernel
theorem dX8_requireWordOf_5 : decode cX8_requireWordOf 5 = .ok (.aload_n 0, 1) := by decide +kernel
theorem dX8_requireWordOf_6 : decode cX8_requireWordOf 6 = .ok (.invokevirtual 74, 3) := by decide +kernel
theorem dX8_requireWordOf_9 : decode cX8_requireWordOf 9 = .ok (.if_icmp .lt 14, 3) := by decide +kernel
theorem dX8_requireWordOf_12 : decode cX8_requireWordOf 12 = .ok (.new 263, 3) := by decide +kernel
theorem dX8_requireWordOf_15 : decode cX8_requireWordOf 15 = .ok (.dup, 1) := by decide +kernel
theorem dX8_requireWordOf_16 : decode cX8_requireWordOf 16 = .ok (.ldc_w 283, 3) := by decide +kernel
theorem dX8_requireWordOf_19 : decode cX8_requireWordOf 19 = .ok (.invokespecial 267, 3) := by decide +kernel
theorem dX8_requireWordOf_22 : decode cX8_requireWordOf 22 = .ok (.athrow, 1) := by decide +kernel
theorem dX8_requireWordOf_23 : decode cX8_requireWordOf 23 = .ok (.aload_n 0, 1) := by decide +kernel
theorem dX8_requireWordOf_24 : decode cX8_requireWordOf 24 = .ok (.iload_n 1, 1) := by decide +kernel
theorem dX8_requireWordOf_25 : decode cX8_requireWordOf 25 = .ok (.invokevirtual 94, 3) := by decide +kernel
theorem dX8_requireWordOf_28 : decode cX8_requireWordOf 28 = .ok (.lreturn, 1) := by decide +kernel
