set_option maxRecDepth 20000 in
theorem ggX9_init_X9_isVowel : GoodIn wsX9_init wsX9_isVowel := goodIn_r _ [23] (by decide +kernel) (by decide +kernel)
set_option maxRecDepth 20000 in
theorem gX9_init_X9_isVowel : GoodIn wsX9_init (va_wsS RX9 51 yX9_isVowel wsX9_isVowel) := goodIn_app (goodIn_of _ (by decide +kernel)) ggX9_init_X9_isVowel
theorem dX9_init_0 : decode cX9_init 0 = .ok (.aload_n 0, 1) := by decide +kernel
theorem dX9_init_1 : decode cX9_init 1 = .ok (.invokespecial 1, 3) := by decide +kernel
theorem dX9_init_4 : decode cX9_init 4 = .ok (.aload_n 0, 1) := by decide +kernel
theorem dX9_init_5 : decode cX9_init 5 = .ok (.bipush 60, 2) := by decide +kernel
theorem dX9_init_7 : decode cX9_init 7 = .ok (.newarray .long, 2) := by decide +kernel
theorem dX9_init_9 : decode cX9_init 9 = .ok (.putfield 7, 3) := by decide +kernel
theorem dX9_init_12 : decode cX9_init 12 = .ok (.aload_n 0, 1) := by decide +kernel
theorem dX9_init_13 : decode cX9_init 13 = .ok (.bipush 27, 2) := by decide +kernel
theorem dX9_init_15 : decode cX9_init 15 = .ok (.newarray .int, 2) := by decide +kernel
theorem dX9_init_17 : decode cX9_init 17 = .ok (.putfield 13, 3) := by decide +kernel
theorem dX9_init_20 : decode cX9_init 20 = .ok (.aload_n 0, 1) := by decide +kernel
theorem dX9_init_21 : decode cX9_init 21 = .ok (.bipush 27, 2) := by decide +kernel
theorem dX9_init_23 : decode cX9_init 23 = .ok (.newarray .int, 2) := by decide +kernel
theorem dX9_init_25 : decode cX9_init 25 = .ok (.putfield 17, 3) := by decide +kernel
theorem dX9_init_28 : decode cX9_init 28 = .ok (.aload_n 0, 1) := by decide +kernel
theorem dX9_init_29 : decode cX9_init 29 = .ok (.bipush 27, 2) := by decide +kernel
theorem dX9_init_31 : decode cX9_init 31 = .ok (.newarray .int, 2) := by decide +kernel
theorem dX9_init_33 : decode cX9_init 33 = .ok (.putfield 20, 3) := by decide +kernel
theorem dX9_init_36 : decode cX9_init 36 = .ok (.aload_n 0, 1) := by decide +kernel
theorem dX9_init_37 : decode cX9_init 37 = .ok (.bipush 27, 2) := by decide +kernel
theorem dX9_init_39 : decode cX9_init 39 = .ok (.newarray .int, 2) := by decide +kernel
theorem dX9_init_41 : decode cX9_init 41 = .ok (.putfield 23, 3) := by decide +kernel
theorem dX9_init_44 : decode cX9_init 44 = .ok (.aload_n 0, 1) := by decide +kernel
theorem dX9_init_45 : decode cX9_init 45 = .ok (.bipush 64, 2) := by decide +kernel
theorem dX9_init_47 : decode cX9_init 47 = .ok (.newarray .long, 2) := by decide +kernel
theorem dX9_init_49 : decode cX9_init 49 = .ok (.putfield 26, 3) := by decide +kernel
theorem dX9_init_52 : decode cX9_init 52 = .ok (.aload_n 0, 1) := by decide +kernel
theorem dX9_init_53 : decode cX9_init 53 = .ok (.bipush 64, 2) := by decide +kernel
theorem dX9_init_55 : decode cX9_init 55 = .ok (.newarray .int, 2) := by decide +kernel
theorem dX9_init_57 : decode cX9_init 57 = .ok (.putfield 29, 3) := by decide +kernel
theorem dX9_init_60 : decode cX9_init 60 = .ok (.aload_n 0, 1) := by decide +kernel
theorem dX9_init_61 : decode cX9_init 61 = .ok (.bipush 64, 2) := by decide +kernel
theorem dX9_init_63 : decode cX9_init 63 = .ok (.newarray .boolean, 2) := by decide +kernel
theorem dX9_init_65 : decode cX9_init 65 = .ok (.putfield 32, 3) := by decide +kernel
theorem dX9_init_68 : decode cX9_init 68 = .ok (.aload_n 0, 1) := by decide +kernel
theorem dX9_init_69 : decode cX9_init 69 = .ok (.bipush 12, 2) := by decide +kernel
theorem dX9_init_71 : decode cX9_init 71 = .ok (.newarray .int, 2) := by decide +kernel
theorem dX9_init_73 : decode cX9_init 73 = .ok (.putfield 36, 3) := by decide +kernel
theorem dX9_init_76 : decode cX9_init 76 = .ok (.aload_n 0, 1) := by decide +kernel
theorem dX9_init_77 : decode cX9_init 77 = .ok (.bipush 27, 2) := by decide +kernel
theorem dX9_init_79 : decode cX9_init 79 = .ok (.newarray .int, 2) := by decide +kernel
theorem dX9_init_81 : decode cX9_init 81 = .ok (.putfield 39, 3) := by decide +kernel
theorem dX9_init_84 : decode cX9_init 84 = .ok (.aload_n 0, 1) := by decide +kernel
theorem dX9_init_85 : decode cX9_init 85 = .ok (.bipush 27, 2) := by decide +kernel
theorem dX9_init_87 : decode cX9_init 87 = .ok (.newarray .int, 2) := by decide +kernel
theorem dX9_init_89 : decode cX9_init 89 = .ok (.putfield 42, 3) := by decide +kernel
theorem dX9_init_92 : decode cX9_init 92 = .ok (.aload_n 0, 1) := by decide +kernel
theorem dX9_init_93 : decode cX9_init 93 = .ok (.bipush 60, 2) := by decide +kernel
theorem dX9_init_95 : decode cX9_init 95 = .ok (.newarray .int, 2) := by decide +kernel
theorem dX9_init_97 : decode cX9_init 97 = .ok (.putfield 45, 3) := by decide +kernel
theorem dX9_init_100 : decode cX9_init 100 = .ok (.aload_n 0, 1) := by decide +kernel
theorem dX9_init_101 : decode cX9_init 101 = .ok (.iconst 3, 1) := by decide +kernel
theorem dX9_init_102 : decode cX9_init 102 = .ok (.newarray .int, 2) := by decide +kernel
theorem dX9_init_104 : decode cX9_init 104 = .ok (.putfield 48, 3) := by decide +kernel
theorem dX9_init_107 : decode cX9_init 107 = .ok (.iconst 1, 1) := by decide +kernel
theorem dX9_init_108 : decode cX9_init 108 = .ok (.istore_n 1, 1) := by decide +kernel
theorem dX9_init_109 : decode cX9_init 109 = .ok (.iload_n 1, 1) := by decide +kernel
theorem dX9_init_110 : decode cX9_init 110 = .ok (.bipush 26, 2) := by decide +kernel
theorem dX9_init_112 : decode cX9_init 112 = .ok (.if_icmp .gt 58, 3) := by decide +kernel
theorem dX9_init_115 : decode cX9_init 115 = .ok (.aload_n 0, 1) := by decide +kernel
theorem dX9_init_116 : decode cX9_init 116 = .ok (.getfield 17, 3) := by decide +kernel
theorem dX9_init_119 : decode cX9_init 119 = .ok (.iload_n 1, 1) := by decide +kernel
theorem dX9_init_120 : decode cX9_init 120 = .ok (.iload_n 1, 1) := by decide +kernel
theorem dX9_init_121 : decode cX9_init 121 = .ok (.invokestatic 51, 3) := by decide +kernel
theorem dX9_init_124 : decode cX9_init 124 = .ok (.ifCond .eq 8, 3) := by decide +kernel
theorem dX9_init_127 : decode cX9_init 127 = .ok (.bipush 40, 2) := by decide +kernel
theorem dX9_init_129 : decode cX9_init 129 = .ok (.goto 34, 3) := by decide +kernel
theorem dX9_init_132 : decode cX9_init 132 = .ok (.iload_n 1, 1) := by decide +kernel
theorem dX9_init_133 : decode cX9_init 133 = .ok (.bipush 10, 2) := by decide +kernel
theorem dX9_init_135 : decode cX9_init 135 = .ok (.if_icmp .eq 21, 3) := by decide +kernel
theorem dX9_init_138 : decode cX9_init 138 = .ok (.iload_n 1, 1) := by decide +kernel
theorem dX9_init_139 : decode cX9_init 139 = .ok (.bipush 17, 2) := by decide +kernel
theorem dX9_init_141 : decode cX9_init 141 = .ok (.if_icmp .eq 15, 3) := by decide +kernel
theorem dX9_init_144 : decode cX9_init 144 = .ok (.iload_n 1, 1) := by decide +kernel
theorem dX9_init_145 : decode cX9_init 145 = .ok (.bipush 24, 2) := by decide +kernel
theorem dX9_init_147 : decode cX9_init 147 = .ok (.if_icmp .eq 9, 3) := by decide +kernel
theorem dX9_init_150 : decode cX9_init 150 = .ok (.iload_n 1, 1) := by decide +kernel
theorem dX9_init_151 : decode cX9_init 151 = .ok (.bipush 26, 2) := by decide +kernel
theorem dX9_init_153 : decode cX9_init 153 = .ok (.if_icmp .ne 8, 3) := by decide +kernel
theorem dX9_init_156 : decode cX9_init 156 = .ok (.bipush 90, 2) := by decide +kernel
theorem dX9_init_158 : decode cX9_init 158 = .ok (.goto 5, 3) := by decide +kernel
theorem dX9_init_161 : decode cX9_init 161 = .ok (.bipush 60, 2) := by decide +kernel
theorem dX9_init_163 : decode cX9_init 163 = .ok (.iastore, 1) := by decide +kernel
theorem dX9_init_164 : decode cX9_init 164 = .ok (.iinc 1 1, 3) := by decide +kernel
theorem dX9_init_167 : decode cX9_init 167 = .ok (.goto (-58), 3) := by decide +kernel
theorem dX9_init_170 : decode cX9_init 170 = .ok (.return_, 1) := by decide +kernel
theorem dX9_thrown_0 : decode cX9_thrown 0 = .ok (.aload_n 0, 1) := by decide +kernel
theorem dX9_thrown_1 : decode cX9_thrown 1 = .ok (.getfield 55, 3) := by decide +kernel
theorem dX9_thrown_4 : decode cX9_thrown 4 = .ok (.ireturn, 1) := by decide +kernel
theorem dX9_fail_0 : decode cX9_fail 0 = .ok (.aload_n 0, 1) := by decide +kernel
theorem dX9_fail_1 : decode cX9_fail 1 = .ok (.iload_n 1, 1) := by decide +kernel
theorem dX9_fail_2 : decode cX9_fail 2 = .ok (.putfield 55, 3) := by decide +kernel
theorem dX9_fail_5 : decode cX9_fail 5 = .ok (.iconst 0, 1) := by decide +kernel
theorem dX9_fail_6 : decode cX9_fail 6 = .ok (.ireturn, 1) := by decide +kernel
theorem dX9_isWithin_0 : decode cX9_isWithin 0 = .ok (.iload_n 0, 1) := by decide +kernel
theorem dX9_isWithin_1 : decode cX9_isWithin 1 = .ok (.iload_n 1, 1) := by decide +kernel
theorem dX9_isWithin_2 : decode cX9_isWithin 2 = .ok (.if_icmp .lt 12, 3) := by decide +kernel
theorem dX9_isWithin_5 : decode cX9_isWithin 5 = .ok (.iload_n 0, 1) := by decide +kernel
theorem dX9_isWithin_6 : decode cX9_isWithin 6 = .ok (.iload_n 2, 1) := by decide +kernel
theorem dX9_isWithin_7 : decode cX9_isWithin 7 = .ok (.if_icmp .gt 7, 3) := by decide +kernel
theorem dX9_isWithin_10 : decode cX9_isWithin 10 = .ok (.iconst 1, 1) := by decide +kernel
theorem dX9_isWithin_11 : decode cX9_isWithin 11 = .ok (.goto 4, 3) := by decide +kernel
theorem dX9_isWithin_14 : decode cX9_isWithin 14 = .ok (.iconst 0, 1) := by decide +kernel
theorem dX9_isWithin_15 : decode cX9_isWithin 15 = .ok (.ireturn, 1) := by decide +kernel
theorem dX9_isGood_0 : decode cX9_isGood 0 = .ok (.aload_n 0, 1) := by decide +kernel
theorem dX9_isGood_1 : decode cX9_isGood 1 = .ok (.iload_n 1, 1) := by decide +kernel
theorem dX9_isGood_2 : decode cX9_isGood 2 = .ok (.ifCond .eq 7, 3) := by decide +kernel
theorem dX9_isGood_5 : decode cX9_isGood 5 = .ok (.iconst 0, 1) := by decide +kernel
theorem dX9_isGood_6 : decode cX9_isGood 6 = .ok (.goto 4, 3) := by decide +kernel
theorem dX9_isGood_9 : decode cX9_isGood 9 = .ok (.iconst 1, 1) := by decide +kernel
theorem dX9_isGood_10 : decode cX9_isGood 10 = .ok (.putfield 55, 3) := by decide +kernel
theorem dX9_isGood_13 : decode cX9_isGood 13 = .ok (.iload_n 1, 1) := by decide +kernel
theorem dX9_isGood_14 : decode cX9_isGood 14 = .ok (.ireturn, 1) := by decide +kernel
theorem dX9_lengthOf_0 : decode cX9_lengthOf 0 = .ok (.iconst 0, 1) := by decide +kernel
theorem dX9_lengthOf_1 : decode cX9_lengthOf 1 = .ok (.istore_n 2, 1) := by decide +kernel
theorem dX9_lengthOf_2 : decode cX9_lengthOf 2 = .ok (.lload_n 0, 1) := by decide +kernel
theorem dX9_lengthOf_3 : decode cX9_lengthOf 3 = .ok (.lstore_n 3, 1) := by decide +kernel
theorem dX9_lengthOf_4 : decode cX9_lengthOf 4 = .ok (.lload_n 3, 1) := by decide +kernel
theorem dX9_lengthOf_5 : decode cX9_lengthOf 5 = .ok (.lconst 0, 1) := by decide +kernel
theorem dX9_lengthOf_6 : decode cX9_lengthOf 6 = .ok (.lcmp, 1) := by decide +kernel
theorem dX9_lengthOf_7 : decode cX9_lengthOf 7 = .ok (.ifCond .le 13, 3) := by decide +kernel
theorem dX9_lengthOf_10 : decode cX9_lengthOf 10 = .ok (.iinc 2 1, 3) := by decide +kernel
theorem dX9_lengthOf_13 : decode cX9_lengthOf 13 = .ok (.lload_n 3, 1) := by decide +kernel
theorem dX9_lengthOf_14 : decode cX9_lengthOf 14 = .ok (.iconst 5, 1) := by decide +kernel
theorem dX9_lengthOf_15 : decode cX9_lengthOf 15 = .ok (.lshr, 1) := by decide +kernel
theorem dX9_lengthOf_16 : decode cX9_lengthOf 16 = .ok (.lstore_n 3, 1) := by decide +kernel
theorem dX9_lengthOf_17 : decode cX9_lengthOf 17 = .ok (.goto (-13), 3) := by decide +kernel
theorem dX9_lengthOf_20 : decode cX9_lengthOf 20 = .ok (.iload_n 2, 1) := by decide +kernel
theorem dX9_lengthOf_21 : decode cX9_lengthOf 21 = .ok (.ireturn, 1) := by decide +kernel
set_option maxRecDepth 20000 in
theorem ggX9_isWord_X9_lengthOf : GoodIn wsX9_isWord wsX9_lengthOf := goodIn_r _ [5] (by decide +kernel) (by decide +kernel)
set_option maxRecDepth 20000 in
theorem gX9_isWord_X9_lengthOf : GoodIn wsX9_isWord (va_wsS RX9 59 yX9_lengthOf wsX9_lengthOf) := goodIn_app (goodIn_of _ (by decide +kernel)) ggX9_isWord_X9_lengthOf
set_option maxRecDepth 20000 in
theorem ggX9_isWord_X9_isWithin : GoodIn wsX9_isWord wsX9_isWithin := goodIn_r _ [8] (by decide +kernel) (by decide +kernel)
set_option maxRecDepth 20000 in
theorem gX9_isWord_X9_isWithin : GoodIn wsX9_isWord (va_wsS RX9 65 yX9_isWithin wsX9_isWithin) := goodIn_app (goodIn_of _ (by decide +kernel)) ggX9_isWord_X9_isWithin
theorem dX9_isWord_0 : decode cX9_isWord 0 = .ok (.lload_n 0, 1) := by decide +kernel
theorem dX9_isWord_1 : decode cX9_isWord 1 = .ok (.lconst 0, 1) := by decide +kernel
theorem dX9_isWord_2 : decode cX9_isWord 2 = .ok (.lcmp, 1) := by decide +kernel
theorem dX9_isWord_3 : decode cX9_isWord 3 = .ok (.ifCond .le 16, 3) := by decide +kernel
theorem dX9_isWord_6 : decode cX9_isWord 6 = .ok (.lload_n 0, 1) := by decide +kernel
theorem dX9_isWord_7 : decode cX9_isWord 7 = .ok (.invokestatic 59, 3) := by decide +kernel
theorem dX9_isWord_10 : decode cX9_isWord 10 = .ok (.bipush 12, 2) := by decide +kernel
theorem dX9_isWord_12 : decode cX9_isWord 12 = .ok (.if_icmp .gt 7, 3) := by decide +kernel
theorem dX9_isWord_15 : decode cX9_isWord 15 = .ok (.iconst 1, 1) := by decide +kernel
theorem dX9_isWord_16 : decode cX9_isWord 16 = .ok (.goto 4, 3) := by decide +kernel
theorem dX9_isWord_19 : decode cX9_isWord 19 = .ok (.iconst 0, 1) := by decide +kernel
theorem dX9_isWord_20 : decode cX9_isWord 20 = .ok (.istore_n 2, 1) := by decide +kernel
theorem dX9_isWord_21 : decode cX9_isWord 21 = .ok (.lload_n 0, 1) := by decide +kernel
theorem dX9_isWord_22 : decode cX9_isWord 22 = .ok (.lstore_n 3, 1) := by decide +kernel
theorem dX9_isWord_23 : decode cX9_isWord 23 = .ok (.lload_n 3, 1) := by decide +kernel
theorem dX9_isWord_24 : decode cX9_isWord 24 = .ok (.lconst 0, 1) := by decide +kernel
theorem dX9_isWord_25 : decode cX9_isWord 25 = .ok (.lcmp, 1) := by decide +kernel
theorem dX9_isWord_26 : decode cX9_isWord 26 = .ok (.ifCond .le 35, 3) := by decide +kernel
theorem dX9_isWord_29 : decode cX9_isWord 29 = .ok (.iload_n 2, 1) := by decide +kernel
theorem dX9_isWord_30 : decode cX9_isWord 30 = .ok (.ifCond .eq 22, 3) := by decide +kernel
theorem dX9_isWord_33 : decode cX9_isWord 33 = .ok (.lload_n 3, 1) := by decide +kernel
theorem dX9_isWord_34 : decode cX9_isWord 34 = .ok (.ldc2_w 63, 3) := by decide +kernel
theorem dX9_isWord_37 : decode cX9_isWord 37 = .ok (.land, 1) := by decide +kernel
theorem dX9_isWord_38 : decode cX9_isWord 38 = .ok (.l2i, 1) := by decide +kernel
theorem dX9_isWord_39 : decode cX9_isWord 39 = .ok (.iconst 1, 1) := by decide +kernel
theorem dX9_isWord_40 : decode cX9_isWord 40 = .ok (.bipush 26, 2) := by decide +kernel
theorem dX9_isWord_42 : decode cX9_isWord 42 = .ok (.invokestatic 65, 3) := by decide +kernel
theorem dX9_isWord_45 : decode cX9_isWord 45 = .ok (.ifCond .eq 7, 3) := by decide +kernel
theorem dX9_isWord_48 : decode cX9_isWord 48 = .ok (.iconst 1, 1) := by decide +kernel
theorem dX9_isWord_49 : decode cX9_isWord 49 = .ok (.goto 4, 3) := by decide +kernel
theorem dX9_isWord_52 : decode cX9_isWord 52 = .ok (.iconst 0, 1) := by decide +kernel
theorem dX9_isWord_53 : decode cX9_isWord 53 = .ok (.istore_n 2, 1) := by decide +kernel
theorem dX9_isWord_54 : decode cX9_isWord 54 = .ok (.lload_n 3, 1) := by decide +kernel
theorem dX9_isWord_55 : decode cX9_isWord 55 = .ok (.iconst 5, 1) := by decide +kernel
theorem dX9_isWord_56 : decode cX9_isWord 56 = .ok (.lshr, 1) := by decide +kernel
theorem dX9_isWord_57 : decode cX9_isWord 57 = .ok (.lstore_n 3, 1) := by decide +kernel
theorem dX9_isWord_58 : decode cX9_isWord 58 = .ok (.goto (-35), 3) := by decide +kernel
theorem dX9_isWord_61 : decode cX9_isWord 61 = .ok (.iload_n 2, 1) := by decide +kernel
theorem dX9_isWord_62 : decode cX9_isWord 62 = .ok (.ireturn, 1) := by decide +kernel
set_option maxRecDepth 20000 in
theorem ggX9_key_X9_lengthOf : GoodIn wsX9_key wsX9_lengthOf := goodIn_r _ [4] (by decide +kernel) (by decide +kernel)
set_option maxRecDepth 20000 in
theorem gX9_key_X9_lengthOf : GoodIn wsX9_key (va_wsS RX9 59 yX9_lengthOf wsX9_lengthOf) := goodIn_app (goodIn_of _ (by decide +kernel)) ggX9_key_X9_lengthOf
theorem dX9_key_0 : decode cX9_key 0 = .ok (.lload_n 0, 1) := by decide +kernel
theorem dX9_key_1 : decode cX9_key 1 = .ok (.iconst 5, 1) := by decide +kernel
theorem dX9_key_2 : decode cX9_key 2 = .ok (.bipush 12, 2) := by decide +kernel
theorem dX9_key_4 : decode cX9_key 4 = .ok (.lload_n 0, 1) := by decide +kernel
theorem dX9_key_5 : decode cX9_key 5 = .ok (.invokestatic 59, 3) := by decide +kernel
theorem dX9_key_8 : decode cX9_key 8 = .ok (.isub, 1) := by decide +kernel
theorem dX9_key_9 : decode cX9_key 9 = .ok (.imul, 1) := by decide +kernel
theorem dX9_key_10 : decode cX9_key 10 = .ok (.lshl, 1) := by decide +kernel
theorem dX9_key_11 : decode cX9_key 11 = .ok (.lreturn, 1) := by decide +kernel
set_option maxRecDepth 20000 in
theorem ggX9_spell_X9_lengthOf : GoodIn wsX9_spell wsX9_lengthOf := goodIn_r _ [7] (by decide +kernel) (by decide +kernel)
set_option maxRecDepth 20000 in
theorem gX9_spell_X9_lengthOf : GoodIn wsX9_spell (va_wsS RX9 59 yX9_lengthOf wsX9_lengthOf) := goodIn_app (goodIn_of _ (by decide +kernel)) ggX9_spell_X9_lengthOf
theorem dX9_spell_0 : decode cX9_spell 0 = .ok (.aload_n 0, 1) := by decide +kernel
theorem dX9_spell_1 : decode cX9_spell 1 = .ok (.lload_n 1, 1) := by decide +kernel
theorem dX9_spell_2 : decode cX9_spell 2 = .ok (.invokestatic 59, 3) := by decide +kernel
theorem dX9_spell_5 : decode cX9_spell 5 = .ok (.putfield 69, 3) := by decide +kernel
theorem dX9_spell_8 : decode cX9_spell 8 = .ok (.iconst 0, 1) := by decide +kernel
theorem dX9_spell_9 : decode cX9_spell 9 = .ok (.istore_n 3, 1) := by decide +kernel
theorem dX9_spell_10 : decode cX9_spell 10 = .ok (.iload_n 3, 1) := by decide +kernel
theorem dX9_spell_11 : decode cX9_spell 11 = .ok (.bipush 26, 2) := by decide +kernel
theorem dX9_spell_13 : decode cX9_spell 13 = .ok (.if_icmp .gt 16, 3) := by decide +kernel
theorem dX9_spell_16 : decode cX9_spell 16 = .ok (.aload_n 0, 1) := by decide +kernel
theorem dX9_spell_17 : decode cX9_spell 17 = .ok (.getfield 39, 3) := by decide +kernel
theorem dX9_spell_20 : decode cX9_spell 20 = .ok (.iload_n 3, 1) := by decide +kernel
theorem dX9_spell_21 : decode cX9_spell 21 = .ok (.iconst 0, 1) := by decide +kernel
theorem dX9_spell_22 : decode cX9_spell 22 = .ok (.iastore, 1) := by decide +kernel
theorem dX9_spell_23 : decode cX9_spell 23 = .ok (.iinc 3 1, 3) := by decide +kernel
theorem dX9_spell_26 : decode cX9_spell 26 = .ok (.goto (-16), 3) := by decide +kernel
theorem dX9_spell_29 : decode cX9_spell 29 = .ok (.iconst 0, 1) := by decide +kernel
theorem dX9_spell_30 : decode cX9_spell 30 = .ok (.istore_n 3, 1) := by decide +kernel
theorem dX9_spell_31 : decode cX9_spell 31 = .ok (.iload_n 3, 1) := by decide +kernel
theorem dX9_spell_32 : decode cX9_spell 32 = .ok (.aload_n 0, 1) := by decide +kernel
theorem dX9_spell_33 : decode cX9_spell 33 = .ok (.getfield 69, 3) := by decide +kernel
theorem dX9_spell_36 : decode cX9_spell 36 = .ok (.if_icmp .ge 46, 3) := by decide +kernel
theorem dX9_spell_39 : decode cX9_spell 39 = .ok (.aload_n 0, 1) := by decide +kernel
theorem dX9_spell_40 : decode cX9_spell 40 = .ok (.getfield 36, 3) := by decide +kernel
theorem dX9_spell_43 : decode cX9_spell 43 = .ok (.iload_n 3, 1) := by decide +kernel
theorem dX9_spell_44 : decode cX9_spell 44 = .ok (.lload_n 1, 1) := by decide +kernel
theorem dX9_spell_45 : decode cX9_spell 45 = .ok (.iconst 5, 1) := by decide +kernel
theorem dX9_spell_46 : decode cX9_spell 46 = .ok (.aload_n 0, 1) := by decide +kernel
theorem dX9_spell_47 : decode cX9_spell 47 = .ok (.getfield 69, 3) := by decide +kernel
theorem dX9_spell_50 : decode cX9_spell 50 = .ok (.iconst 1, 1) := by decide +kernel
theorem dX9_spell_51 : decode cX9_spell 51 = .ok (.isub, 1) := by decide +kernel
theorem dX9_spell_52 : decode cX9_spell 52 = .ok (.iload_n 3, 1) := by decide +kernel
theorem dX9_spell_53 : decode cX9_spell 53 = .ok (.isub, 1) := by decide +kernel
theorem dX9_spell_54 : decode cX9_spell 54 = .ok (.imul, 1) := by decide +kernel
theorem dX9_spell_55 : decode cX9_spell 55 = .ok (.lshr, 1) := by decide +kernel
theorem dX9_spell_56 : decode cX9_spell 56 = .ok (.l2i, 1) := by decide +kernel
theorem dX9_spell_57 : decode cX9_spell 57 = .ok (.bipush 31, 2) := by decide +kernel
theorem dX9_spell_59 : decode cX9_spell 59 = .ok (.iand, 1) := by decide +kernel
theorem dX9_spell_60 : decode cX9_spell 60 = .ok (.iastore, 1) := by decide +kernel
theorem dX9_spell_61 : decode cX9_spell 61 = .ok (.aload_n 0, 1) := by decide +kernel
theorem dX9_spell_62 : decode cX9_spell 62 = .ok (.getfield 39, 3) := by decide +kernel
theorem dX9_spell_65 : decode cX9_spell 65 = .ok (.aload_n 0, 1) := by decide +kernel
theorem dX9_spell_66 : decode cX9_spell 66 = .ok (.getfield 36, 3) := by decide +kernel
theorem dX9_spell_69 : decode cX9_spell 69 = .ok (.iload_n 3, 1) := by decide +kernel
theorem dX9_spell_70 : decode cX9_spell 70 = .ok (.iaload, 1) := by decide +kernel
theorem dX9_spell_71 : decode cX9_spell 71 = .ok (.dup2, 1) := by decide +kernel
theorem dX9_spell_72 : decode cX9_spell 72 = .ok (.iaload, 1) := by decide +kernel
theorem dX9_spell_73 : decode cX9_spell 73 = .ok (.iconst 1, 1) := by decide +kernel
theorem dX9_spell_74 : decode cX9_spell 74 = .ok (.iadd, 1) := by decide +kernel
theorem dX9_spell_75 : decode cX9_spell 75 = .ok (.iastore, 1) := by decide +kernel
theorem dX9_spell_76 : decode cX9_spell 76 = .ok (.iinc 3 1, 3) := by decide +kernel
theorem dX9_spell_79 : decode cX9_spell 79 = .ok (.goto (-48), 3) := by decide +kernel
theorem dX9_spell_82 : decode cX9_spell 82 = .ok (.return_, 1) := by decide +kernel
theorem dX9_countIn_0 : decode cX9_countIn 0 = .ok (.iconst 0, 1) := by decide +kernel
theorem dX9_countIn_1 : decode cX9_countIn 1 = .ok (.istore_n 3, 1) := by decide +kernel
theorem dX9_countIn_2 : decode cX9_countIn 2 = .ok (.lload_n 0, 1) := by decide +kernel
theorem dX9_countIn_3 : decode cX9_countIn 3 = .ok (.lstore 4, 2) := by decide +kernel
theorem dX9_countIn_5 : decode cX9_countIn 5 = .ok (.lload 4, 2) := by decide +kernel
theorem dX9_countIn_7 : decode cX9_countIn 7 = .ok (.lconst 0, 1) := by decide +kernel
theorem dX9_countIn_8 : decode cX9_countIn 8 = .ok (.lcmp, 1) := by decide +kernel
theorem dX9_countIn_9 : decode cX9_countIn 9 = .ok (.ifCond .le 32, 3) := by decide +kernel
theorem dX9_countIn_12 : decode cX9_countIn 12 = .ok (.iload_n 3, 1) := by decide +kernel
theorem dX9_countIn_13 : decode cX9_countIn 13 = .ok (.lload 4, 2) := by decide +kernel
theorem dX9_countIn_15 : decode cX9_countIn 15 = .ok (.ldc2_w 63, 3) := by decide +kernel
theorem dX9_countIn_18 : decode cX9_countIn 18 = .ok (.land, 1) := by decide +kernel
theorem dX9_countIn_19 : decode cX9_countIn 19 = .ok (.iload_n 2, 1) := by decide +kernel
theorem dX9_countIn_20 : decode cX9_countIn 20 = .ok (.i2l, 1) := by decide +kernel
theorem dX9_countIn_21 : decode cX9_countIn 21 = .ok (.lcmp, 1) := by decide +kernel
theorem dX9_countIn_22 : decode cX9_countIn 22 = .ok (.ifCond .ne 7, 3) := by decide +kernel
theorem dX9_countIn_25 : decode cX9_countIn 25 = .ok (.iconst 1, 1) := by decide +kernel
theorem dX9_countIn_26 : decode cX9_countIn 26 = .ok (.goto 4, 3) := by decide +kernel
theorem dX9_countIn_29 : decode cX9_countIn 29 = .ok (.iconst 0, 1) := by decide +kernel
theorem dX9_countIn_30 : decode cX9_countIn 30 = .ok (.iadd, 1) := by decide +kernel
theorem dX9_countIn_31 : decode cX9_countIn 31 = .ok (.istore_n 3, 1) := by decide +kernel
theorem dX9_countIn_32 : decode cX9_countIn 32 = .ok (.lload 4, 2) := by decide +kernel
theorem dX9_countIn_34 : decode cX9_countIn 34 = .ok (.iconst 5, 1) := by decide +kernel
theorem dX9_countIn_35 : decode cX9_countIn 35 = .ok (.lshr, 1) := by decide +kernel
theorem dX9_countIn_36 : decode cX9_countIn 36 = .ok (.lstore 4, 2) := by decide +kernel
theorem dX9_countIn_38 : decode cX9_countIn 38 = .ok (.goto (-33), 3) := by decide +kernel
theorem dX9_countIn_41 : decode cX9_countIn 41 = .ok (.iload_n 3, 1) := by decide +kernel
theorem dX9_countIn_42 : decode cX9_countIn 42 = .ok (.ireturn, 1) := by decide +kernel
set_option maxRecDepth 20000 in
theorem ggX9_fits_X9_countIn : GoodIn wsX9_fits wsX9_countIn := goodIn_r _ [6, 1] (by decide +kernel) (by decide +kernel)
set_option maxRecDepth 20000 in
theorem gX9_fits_X9_countIn : GoodIn wsX9_fits (va_wsS RX9 72 yX9_countIn wsX9_countIn) := goodIn_app (goodIn_of _ (by decide +kernel)) ggX9_fits_X9_countIn
theorem dX9_fits_0 : decode cX9_fits 0 = .ok (.iconst 1, 1) := by decide +kernel
theorem dX9_fits_1 : decode cX9_fits 1 = .ok (.istore_n 3, 1) := by decide +kernel
theorem dX9_fits_2 : decode cX9_fits 2 = .ok (.lload_n 1, 1) := by decide +kernel
theorem dX9_fits_3 : decode cX9_fits 3 = .ok (.lstore 4, 2) := by decide +kernel
theorem dX9_fits_5 : decode cX9_fits 5 = .ok (.lload 4, 2) := by decide +kernel
theorem dX9_fits_7 : decode cX9_fits 7 = .ok (.lconst 0, 1) := by decide +kernel
theorem dX9_fits_8 : decode cX9_fits 8 = .ok (.lcmp, 1) := by decide +kernel
theorem dX9_fits_9 : decode cX9_fits 9 = .ok (.ifCond .le 47, 3) := by decide +kernel
theorem dX9_fits_12 : decode cX9_fits 12 = .ok (.lload 4, 2) := by decide +kernel
theorem dX9_fits_14 : decode cX9_fits 14 = .ok (.ldc2_w 63, 3) := by decide +kernel
theorem dX9_fits_17 : decode cX9_fits 17 = .ok (.land, 1) := by decide +kernel
theorem dX9_fits_18 : decode cX9_fits 18 = .ok (.l2i, 1) := by decide +kernel
theorem dX9_fits_19 : decode cX9_fits 19 = .ok (.istore 6, 2) := by decide +kernel
theorem dX9_fits_21 : decode cX9_fits 21 = .ok (.iload_n 3, 1) := by decide +kernel
theorem dX9_fits_22 : decode cX9_fits 22 = .ok (.ifCond .eq 23, 3) := by decide +kernel
theorem dX9_fits_25 : decode cX9_fits 25 = .ok (.lload_n 1, 1) := by decide +kernel
theorem dX9_fits_26 : decode cX9_fits 26 = .ok (.iload 6, 2) := by decide +kernel
theorem dX9_fits_28 : decode cX9_fits 28 = .ok (.invokestatic 72, 3) := by decide +kernel
theorem dX9_fits_31 : decode cX9_fits 31 = .ok (.aload_n 0, 1) := by decide +kernel
theorem dX9_fits_32 : decode cX9_fits 32 = .ok (.getfield 39, 3) := by decide +kernel
theorem dX9_fits_35 : decode cX9_fits 35 = .ok (.iload 6, 2) := by decide +kernel
theorem dX9_fits_37 : decode cX9_fits 37 = .ok (.iaload, 1) := by decide +kernel
theorem dX9_fits_38 : decode cX9_fits 38 = .ok (.if_icmp .gt 7, 3) := by decide +kernel
theorem dX9_fits_41 : decode cX9_fits 41 = .ok (.iconst 1, 1) := by decide +kernel
theorem dX9_fits_42 : decode cX9_fits 42 = .ok (.goto 4, 3) := by decide +kernel
theorem dX9_fits_45 : decode cX9_fits 45 = .ok (.iconst 0, 1) := by decide +kernel
theorem dX9_fits_46 : decode cX9_fits 46 = .ok (.istore_n 3, 1) := by decide +kernel
theorem dX9_fits_47 : decode cX9_fits 47 = .ok (.lload 4, 2) := by decide +kernel
theorem dX9_fits_49 : decode cX9_fits 49 = .ok (.iconst 5, 1) := by decide +kernel
theorem dX9_fits_50 : decode cX9_fits 50 = .ok (.lshr, 1) := by decide +kernel
theorem dX9_fits_51 : decode cX9_fits 51 = .ok (.lstore 4, 2) := by decide +kernel
theorem dX9_fits_53 : decode cX9_fits 53 = .ok (.goto (-48), 3) := by decide +kernel
theorem dX9_fits_56 : decode cX9_fits 56 = .ok (.iload_n 3, 1) := by decide +kernel
theorem dX9_fits_57 : decode cX9_fits 57 = .ok (.ireturn, 1) := by decide +kernel
theorem dX9_isVowel_0 : decode cX9_isVowel 0 = .ok (.iload_n 0, 1) := by decide +kernel
theorem dX9_isVowel_1 : decode cX9_isVowel 1 = .ok (.iconst 1, 1) := by decide +kernel
theorem dX9_isVowel_2 : decode cX9_isVowel 2 = .ok (.if_icmp .eq 26, 3) := by decide +kernel
theorem dX9_isVowel_5 : decode cX9_isVowel 5 = .ok (.iload_n 0, 1) := by decide +kernel
theorem dX9_isVowel_6 : decode cX9_isVowel 6 = .ok (.iconst 5, 1) := by decide +kernel
theorem dX9_isVowel_7 : decode cX9_isVowel 7 = .ok (.if_icmp .eq 21, 3) := by decide +kernel
theorem dX9_isVowel_10 : decode cX9_isVowel 10 = .ok (.iload_n 0, 1) := by decide +kernel
theorem dX9_isVowel_11 : decode cX9_isVowel 11 = .ok (.bipush 9, 2) := by decide +kernel
theorem dX9_isVowel_13 : decode cX9_isVowel 13 = .ok (.if_icmp .eq 15, 3) := by decide +kernel
theorem dX9_isVowel_16 : decode cX9_isVowel 16 = .ok (.iload_n 0, 1) := by decide +kernel
theorem dX9_isVowel_17 : decode cX9_isVowel 17 = .ok (.bipush 15, 2) := by decide +kernel
theorem dX9_isVowel_19 : decode cX9_isVowel 19 = .ok (.if_icmp .eq 9, 3) := by decide +kernel
theorem dX9_isVowel_22 : decode cX9_isVowel 22 = .ok (.iload_n 0, 1) := by decide +kernel
theorem dX9_isVowel_23 : decode cX9_isVowel 23 = .ok (.bipush 21, 2) := by decide +kernel
theorem dX9_isVowel_25 : decode cX9_isVowel 25 = .ok (.if_icmp .ne 7, 3) := by decide +kernel
theorem dX9_isVowel_28 : decode cX9_isVowel 28 = .ok (.iconst 1, 1) := by decide +kernel
theorem dX9_isVowel_29 : decode cX9_isVowel 29 = .ok (.goto 4, 3) := by decide +kernel
theorem dX9_isVowel_32 : decode cX9_isVowel 32 = .ok (.iconst 0, 1) := by decide +kernel
theorem dX9_isVowel_33 : decode cX9_isVowel 33 = .ok (.ireturn, 1) := by decide +kernel
set_option maxRecDepth 20000 in
theorem ggX9_weight_X9_isVowel : GoodIn wsX9_weight wsX9_isVowel := goodIn_r _ [4] (by decide +kernel) (by decide +kernel)
set_option maxRecDepth 20000 in
theorem gX9_weight_X9_isVowel : GoodIn wsX9_weight (va_wsS RX9 51 yX9_isVowel wsX9_isVowel) := goodIn_app (goodIn_of _ (by decide +kernel)) ggX9_weight_X9_isVowel
theorem dX9_weight_0 : decode cX9_weight 0 = .ok (.iload_n 0, 1) := by decide +kernel
theorem dX9_weight_1 : decode cX9_weight 1 = .ok (.invokestatic 51, 3) := by decide +kernel
theorem dX9_weight_4 : decode cX9_weight 4 = .ok (.ifCond .eq 7, 3) := by decide +kernel
theorem dX9_weight_7 : decode cX9_weight 7 = .ok (.iconst 2, 1) := by decide +kernel
theorem dX9_weight_8 : decode cX9_weight 8 = .ok (.goto 20, 3) := by decide +kernel
theorem dX9_weight_11 : decode cX9_weight 11 = .ok (.iload_n 0, 1) := by decide +kernel
theorem dX9_weight_12 : decode cX9_weight 12 = .ok (.bipush 13, 2) := by decide +kernel
theorem dX9_weight_14 : decode cX9_weight 14 = .ok (.if_icmp .eq 9, 3) := by decide +kernel
theorem dX9_weight_17 : decode cX9_weight 17 = .ok (.iload_n 0, 1) := by decide +kernel
theorem dX9_weight_18 : decode cX9_weight 18 = .ok (.bipush 23, 2) := by decide +kernel
theorem dX9_weight_20 : decode cX9_weight 20 = .ok (.if_icmp .ne 7, 3) := by decide +kernel
theorem dX9_weight_23 : decode cX9_weight 23 = .ok (.iconst 5, 1) := by decide +kernel
theorem dX9_weight_24 : decode cX9_weight 24 = .ok (.goto 4, 3) := by decide +kernel
theorem dX9_weight_27 : decode cX9_weight 27 = .ok (.iconst 3, 1) := by decide +kernel
theorem dX9_weight_28 : decode cX9_weight 28 = .ok (.ireturn, 1) := by decide +kernel
theorem dX9_placeOf_0 : decode cX9_placeOf 0 = .ok (.iconst 0, 1) := by decide +kernel
theorem dX9_placeOf_1 : decode cX9_placeOf 1 = .ok (.istore_n 3, 1) := by decide +kernel
theorem dX9_placeOf_2 : decode cX9_placeOf 2 = .ok (.iload_n 3, 1) := by decide +kernel
theorem dX9_placeOf_3 : decode cX9_placeOf 3 = .ok (.aload_n 0, 1) := by decide +kernel
theorem dX9_placeOf_4 : decode cX9_placeOf 4 = .ok (.getfield 76, 3) := by decide +kernel
theorem dX9_placeOf_7 : decode cX9_placeOf 7 = .ok (.if_icmp .ge 22, 3) := by decide +kernel
theorem dX9_placeOf_10 : decode cX9_placeOf 10 = .ok (.aload_n 0, 1) := by decide +kernel
theorem dX9_placeOf_11 : decode cX9_placeOf 11 = .ok (.getfield 7, 3) := by decide +kernel
theorem dX9_placeOf_14 : decode cX9_placeOf 14 = .ok (.iload_n 3, 1) := by decide +kernel
theorem dX9_placeOf_15 : decode cX9_placeOf 15 = .ok (.laload, 1) := by decide +kernel
theorem dX9_placeOf_16 : decode cX9_placeOf 16 = .ok (.lload_n 1, 1) := by decide +kernel
theorem dX9_placeOf_17 : decode cX9_placeOf 17 = .ok (.lcmp, 1) := by decide +kernel
theorem dX9_placeOf_18 : decode cX9_placeOf 18 = .ok (.ifCond .ne 5, 3) := by decide +kernel
theorem dX9_placeOf_21 : decode cX9_placeOf 21 = .ok (.iload_n 3, 1) := by decide +kernel
theorem dX9_placeOf_22 : decode cX9_placeOf 22 = .ok (.ireturn, 1) := by decide +kernel
theorem dX9_placeOf_23 : decode cX9_placeOf 23 = .ok (.iinc 3 1, 3) := by decide +kernel
theorem dX9_placeOf_26 : decode cX9_placeOf 26 = .ok (.goto (-24), 3) := by decide +kernel
theorem dX9_placeOf_29 : decode cX9_placeOf 29 = .ok (.iconst (-1), 1) := by decide +kernel
theorem dX9_placeOf_30 : decode cX9_placeOf 30 = .ok (.ireturn, 1) := by decide +kernel
set_option maxRecDepth 20000 in
theorem ggX9_addWord_X9_isWord : GoodIn wsX9_addWord wsX9_isWord := goodIn_r _ [6, 7, 8, 9, 5, 10, 11, 12, 13] (by decide +kernel) (by decide +kernel)
set_option maxRecDepth 20000 in
theorem gX9_addWord_X9_isWord : GoodIn wsX9_addWord (va_wsS RX9 79 yX9_isWord wsX9_isWord) := goodIn_app (goodIn_of _ (by decide +kernel)) ggX9_addWord_X9_isWord
set_option maxRecDepth 20000 in
theorem ggX9_addWord_X9_isGood : GoodIn wsX9_addWord wsX9_isGood := goodIn_r _ [17, 18, 27, 28, 29, 30, 31, 32, 33, 34, 35, 36, 37, 38, 39, 40, 41, 42, 43, 44, 45] (by decide +kernel) (by decide +kernel)
set_option maxRecDepth 20000 in
theorem gX9_addWord_X9_isGood : GoodIn wsX9_addWord (wsV RX9 83 RX9 yX9_isGood wsX9_isGood) := goodIn_app (goodIn_of _ (by decide +kernel)) ggX9_addWord_X9_isGood
set_option maxRecDepth 20000 in
theorem ggX9_addWord_X9_placeOf : GoodIn wsX9_addWord wsX9_placeOf := goodIn_r _ [22, 1, 2, 27, 28, 29, 30, 31, 32, 33, 34, 35, 36, 37, 38, 39, 40, 41, 42, 43, 44, 45] (by decide +kernel) (by decide +kernel)
set_option maxRecDepth 20000 in
theorem gX9_addWord_X9_placeOf : GoodIn wsX9_addWord (wsV RX9 87 RX9 yX9_placeOf wsX9_placeOf) := goodIn_app (goodIn_of _ (by decide +kernel)) ggX9_addWord_X9_placeOf
set_option maxRecDepth 20000 in
theorem ggX9_addWord_X9_fail : GoodIn wsX9_addWord wsX9_fail := goodIn_r _ [26, 18, 27, 28, 29, 30, 31, 32, 33, 34, 35, 36, 37, 38, 39, 40, 41, 42, 43, 44, 45] (by decide +kernel) (by decide +kernel)
set_option maxRecDepth 20000 in
theorem gX9_addWord_X9_fail : GoodIn wsX9_addWord (wsV RX9 90 RX9 yX9_fail wsX9_fail) := goodIn_app (goodIn_of _ (by decide +kernel)) ggX9_addWord_X9_fail
theorem dX9_addWord_0 : decode cX9_addWord 0 = .ok (.aload_n 0, 1) := by decide +kernel
theorem dX9_addWord_1 : decode cX9_addWord 1 = .ok (.lload_n 1, 1) := by decide +kernel
theorem dX9_addWord_2 : decode cX9_addWord 2 = .ok (.invokestatic 79, 3) := by decide +kernel
theorem dX9_addWord_5 : decode cX9_addWord 5 = .ok (.invokevirtual 83, 3) := by decide +kernel
theorem dX9_addWord_8 : decode cX9_addWord 8 = .ok (.ifCond .ne 5, 3) := by decide +kernel
theorem dX9_addWord_11 : decode cX9_addWord 11 = .ok (.iconst 0, 1) := by decide +kernel
theorem dX9_addWord_12 : decode cX9_addWord 12 = .ok (.ireturn, 1) := by decide +kernel
theorem dX9_addWord_13 : decode cX9_addWord 13 = .ok (.aload_n 0, 1) := by decide +kernel
theorem dX9_addWord_14 : decode cX9_addWord 14 = .ok (.lload_n 1, 1) := by decide +kernel
theorem dX9_addWord_15 : decode cX9_addWord 15 = .ok (.invokevirtual 87, 3) := by decide +kernel
theorem dX9_addWord_18 : decode cX9_addWord 18 = .ok (.iconst (-1), 1) := by decide +kernel
theorem dX9_addWord_19 : decode cX9_addWord 19 = .ok (.if_icmp .ne 12, 3) := by decide +kernel
theorem dX9_addWord_22 : decode cX9_addWord 22 = .ok (.aload_n 0, 1) := by decide +kernel
theorem dX9_addWord_23 : decode cX9_addWord 23 = .ok (.getfield 76, 3) := by decide +kernel
theorem dX9_addWord_26 : decode cX9_addWord 26 = .ok (.bipush 60, 2) := by decide +kernel
theorem dX9_addWord_28 : decode cX9_addWord 28 = .ok (.if_icmp .ne 9, 3) := by decide +kernel
theorem dX9_addWord_31 : decode cX9_addWord 31 = .ok (.aload_n 0, 1) := by decide +kernel
theorem dX9_addWord_32 : decode cX9_addWord 32 = .ok (.iconst 2, 1) := by decide +kernel
theorem dX9_addWord_33 : decode cX9_addWord 33 = .ok (.invokevirtual 90, 3) := by decide +kernel
theorem dX9_addWord_36 : decode cX9_addWord 36 = .ok (.ireturn, 1) := by decide +kernel
theorem dX9_addWord_37 : decode cX9_addWord 37 = .ok (.aload_n 0, 1) := by decide +kernel
theorem dX9_addWord_38 : decode cX9_addWord 38 = .ok (.getfield 7, 3) := by decide +kernel
theorem dX9_addWord_41 : decode cX9_addWord 41 = .ok (.aload_n 0, 1) := by decide +kernel
theorem dX9_addWord_42 : decode cX9_addWord 42 = .ok (.getfield 76, 3) := by decide +kernel
theorem dX9_addWord_45 : decode cX9_addWord 45 = .ok (.lload_n 1, 1) := by decide +kernel
theorem dX9_addWord_46 : decode cX9_addWord 46 = .ok (.lastore, 1) := by decide +kernel
theorem dX9_addWord_47 : decode cX9_addWord 47 = .ok (.aload_n 0, 1) := by decide +kernel
theorem dX9_addWord_48 : decode cX9_addWord 48 = .ok (.dup, 1) := by decide +kernel
theorem dX9_addWord_49 : decode cX9_addWord 49 = .ok (.getfield 76, 3) := by decide +kernel
theorem dX9_addWord_52 : decode cX9_addWord 52 = .ok (.iconst 1, 1) := by decide +kernel
theorem dX9_addWord_53 : decode cX9_addWord 53 = .ok (.iadd, 1) := by decide +kernel
theorem dX9_addWord_54 : decode cX9_addWord 54 = .ok (.putfield 76, 3) := by decide +kernel
theorem dX9_addWord_57 : decode cX9_addWord 57 = .ok (.aload_n 0, 1) := by decide +kernel
theorem dX9_addWord_58 : decode cX9_addWord 58 = .ok (.getfield 76, 3) := by decide +kernel
theorem dX9_addWord_61 : decode cX9_addWord 61 = .ok (.ireturn, 1) := by decide +kernel
set_option maxRecDepth 20000 in
theorem ggX9_removeWord_X9_isWord : GoodIn wsX9_removeWord wsX9_isWord := goodIn_r _ [6, 7, 8, 9, 5, 10, 11, 12, 13] (by decide +kernel) (by decide +kernel)
set_option maxRecDepth 20000 in
theorem gX9_removeWord_X9_isWord : GoodIn wsX9_removeWord (va_wsS RX9 79 yX9_isWord wsX9_isWord) := goodIn_app (goodIn_of _ (by decide +kernel)) ggX9_removeWord_X9_isWord
set_option maxRecDepth 20000 in
theorem ggX9_removeWord_X9_isGood : GoodIn wsX9_removeWord wsX9_isGood := goodIn_r _ [17, 18, 27, 28, 29, 30, 31, 32, 33, 34, 35, 36, 37, 38, 39, 40, 41, 42, 43, 44, 45] (by decide +kernel) (by decide +kernel)
set_option maxRecDepth 20000 in
theorem gX9_removeWord_X9_isGood : GoodIn wsX9_removeWord (wsV RX9 83 RX9 yX9_isGood wsX9_isGood) := goodIn_app (goodIn_of _ (by decide +kernel)) ggX9_removeWord_X9_isGood
set_option maxRecDepth 20000 in
theorem ggX9_removeWord_X9_placeOf : GoodIn wsX9_removeWord wsX9_placeOf := goodIn_r _ [22, 1, 2, 27, 28, 29, 30, 31, 32, 33, 34, 35, 36, 37, 38, 39, 40, 41, 42, 43, 44, 45] (by decide +kernel) (by decide +kernel)
set_option maxRecDepth 20000 in
theorem gX9_removeWord_X9_placeOf : GoodIn wsX9_removeWord (wsV RX9 87 RX9 yX9_placeOf wsX9_placeOf) := goodIn_app (goodIn_of _ (by decide +kernel)) ggX9_removeWord_X9_placeOf
set_option maxRecDepth 20000 in
theorem ggX9_removeWord_X9_fail : GoodIn wsX9_removeWord wsX9_fail := goodIn_r _ [26, 18, 27, 28, 29, 30, 31, 32, 33, 34, 35, 36, 37, 38, 39, 40, 41, 42, 43, 44, 45] (by decide +kernel) (by decide +kernel)
set_option maxRecDepth 20000 in
theorem gX9_removeWord_X9_fail : GoodIn wsX9_removeWord (wsV RX9 90 RX9 yX9_fail wsX9_fail) := goodIn_app (goodIn_of _ (by decide +kernel)) ggX9_removeWord_X9_fail
theorem dX9_removeWord_0 : decode cX9_removeWord 0 = .ok (.aload_n 0, 1) := by decide +kernel
theorem dX9_removeWord_1 : decode cX9_removeWord 1 = .ok (.lload_n 1, 1) := by decide +kernel
theorem dX9_removeWord_2 : decode cX9_removeWord 2 = .ok (.invokestatic 79, 3) := by decide +kernel
theorem dX9_removeWord_5 : decode cX9_removeWord 5 = .ok (.invokevirtual 83, 3) := by decide +kernel
theorem dX9_removeWord_8 : decode cX9_removeWord 8 = .ok (.ifCond .ne 5, 3) := by decide +kernel
theorem dX9_removeWord_11 : decode cX9_removeWord 11 = .ok (.iconst 0, 1) := by decide +kernel
theorem dX9_removeWord_12 : decode cX9_removeWord 12 = .ok (.ireturn, 1) := by decide +kernel
theorem dX9_removeWord_13 : decode cX9_removeWord 13 = .ok (.aload_n 0, 1) := by decide +kernel
theorem dX9_removeWord_14 : decode cX9_removeWord 14 = .ok (.lload_n 1, 1) := by decide +kernel
theorem dX9_removeWord_15 : decode cX9_removeWord 15 = .ok (.invokevirtual 87, 3) := by decide +kernel
theorem dX9_removeWord_18 : decode cX9_removeWord 18 = .ok (.istore_n 3, 1) := by decide +kernel
theorem dX9_removeWord_19 : decode cX9_removeWord 19 = .ok (.iload_n 3, 1) := by decide +kernel
theorem dX9_removeWord_20 : decode cX9_removeWord 20 = .ok (.iconst (-1), 1) := by decide +kernel
theorem dX9_removeWord_21 : decode cX9_removeWord 21 = .ok (.if_icmp .ne 9, 3) := by decide +kernel
theorem dX9_removeWord_24 : decode cX9_removeWord 24 = .ok (.aload_n 0, 1) := by decide +kernel
theorem dX9_removeWord_25 : decode cX9_removeWord 25 = .ok (.iconst 2, 1) := by decide +kernel
theorem dX9_removeWord_26 : decode cX9_removeWord 26 = .ok (.invokevirtual 90, 3) := by decide +kernel
theorem dX9_removeWord_29 : decode cX9_removeWord 29 = .ok (.ireturn, 1) := by decide +kernel
theorem dX9_removeWord_30 : decode cX9_removeWord 30 = .ok (.aload_n 0, 1) := by decide +kernel
theorem dX9_removeWord_31 : decode cX9_removeWord 31 = .ok (.dup, 1) := by decide +kernel
theorem dX9_removeWord_32 : decode cX9_removeWord 32 = .ok (.getfield 76, 3) := by decide +kernel
theorem dX9_removeWord_35 : decode cX9_removeWord 35 = .ok (.iconst 1, 1) := by decide +kernel
theorem dX9_removeWord_36 : decode cX9_removeWord 36 = .ok (.isub, 1) := by decide +kernel
theorem dX9_removeWord_37 : decode cX9_removeWord 37 = .ok (.putfield 76, 3) := by decide +kernel
theorem dX9_removeWord_40 : decode cX9_removeWord 40 = .ok (.aload_n 0, 1) := by decide +kernel
theorem dX9_removeWord_41 : decode cX9_removeWord 41 = .ok (.getfield 7, 3) := by decide +kernel
theorem dX9_removeWord_44 : decode cX9_removeWord 44 = .ok (.iload_n 3, 1) := by decide +kernel
theorem dX9_removeWord_45 : decode cX9_removeWord 45 = .ok (.aload_n 0, 1) := by decide +kernel
theorem dX9_removeWord_46 : decode cX9_removeWord 46 = .ok (.getfield 7, 3) := by decide +kernel
theorem dX9_removeWord_49 : decode cX9_removeWord 49 = .ok (.aload_n 0, 1) := by decide +kernel
theorem dX9_removeWord_50 : decode cX9_removeWord 50 = .ok (.getfield 76, 3) := by decide +kernel
theorem dX9_removeWord_53 : decode cX9_removeWord 53 = .ok (.laload, 1) := by decide +kernel
theorem dX9_removeWord_54 : decode cX9_removeWord 54 = .ok (.lastore, 1) := by decide +kernel
theorem dX9_removeWord_55 : decode cX9_removeWord 55 = .ok (.aload_n 0, 1) := by decide +kernel
theorem dX9_removeWord_56 : decode cX9_removeWord 56 = .ok (.getfield 76, 3) := by decide +kernel
theorem dX9_removeWord_59 : decode cX9_removeWord 59 = .ok (.ireturn, 1) := by decide +kernel
theorem dX9_wordCount_0 : decode cX9_wordCount 0 = .ok (.aload_n 0, 1) := by decide +kernel
theorem dX9_wordCount_1 : decode cX9_wordCount 1 = .ok (.iconst 0, 1) := by decide +kernel
theorem dX9_wordCount_2 : decode cX9_wordCount 2 = .ok (.putfield 55, 3) := by decide +kernel
theorem dX9_wordCount_5 : decode cX9_wordCount 5 = .ok (.aload_n 0, 1) := by decide +kernel
theorem dX9_wordCount_6 : decode cX9_wordCount 6 = .ok (.getfield 76, 3) := by decide +kernel
theorem dX9_wordCount_9 : decode cX9_wordCount 9 = .ok (.ireturn, 1) := by decide +kernel
set_option maxRecDepth 20000 in
theorem ggX9_isAsked_X9_fits : GoodIn wsX9_isAsked wsX9_fits := goodIn_r _ [6, 7, 8, 9, 10, 5, 11, 15, 16, 17, 18, 19, 20, 21, 22, 23, 24, 25, 26, 27, 28, 29, 30, 31, 32, 33] (by decide +kernel) (by decide +kernel)
set_option maxRecDepth 20000 in
theorem gX9_isAsked_X9_fits : GoodIn wsX9_isAsked (wsV RX9 94 RX9 yX9_fits wsX9_fits) := goodIn_app (goodIn_of _ (by decide +kernel)) ggX9_isAsked_X9_fits
set_option maxRecDepth 20000 in
theorem ggX9_isAsked_X9_lengthOf : GoodIn wsX9_isAsked wsX9_lengthOf := goodIn_r _ [14] (by decide +kernel) (by decide +kernel)
set_option maxRecDepth 20000 in
theorem gX9_isAsked_X9_lengthOf : GoodIn wsX9_isAsked (va_wsS RX9 59 yX9_lengthOf wsX9_lengthOf) := goodIn_app (goodIn_of _ (by decide +kernel)) ggX9_isAsked_X9_lengthOf
theorem dX9_isAsked_0 : decode cX9_isAsked 0 = .ok (.iload_n 3, 1) := by decide +kernel
theorem dX9_isAsked_1 : decode cX9_isAsked 1 = .ok (.ifCond .eq 27, 3) := by decide +kernel
theorem dX9_isAsked_4 : decode cX9_isAsked 4 = .ok (.aload_n 0, 1) := by decide +kernel
theorem dX9_isAsked_5 : decode cX9_isAsked 5 = .ok (.lload_n 1, 1) := by decide +kernel
theorem dX9_isAsked_6 : decode cX9_isAsked 6 = .ok (.invokevirtual 94, 3) := by decide +kernel
theorem dX9_isAsked_9 : decode cX9_isAsked 9 = .ok (.ifCond .eq 23, 3) := by decide +kernel
theorem dX9_isAsked_12 : decode cX9_isAsked 12 = .ok (.iload_n 3, 1) := by decide +kernel
theorem dX9_isAsked_13 : decode cX9_isAsked 13 = .ok (.iconst 1, 1) := by decide +kernel
theorem dX9_isAsked_14 : decode cX9_isAsked 14 = .ok (.if_icmp .eq 14, 3) := by decide +kernel
theorem dX9_isAsked_17 : decode cX9_isAsked 17 = .ok (.lload_n 1, 1) := by decide +kernel
theorem dX9_isAsked_18 : decode cX9_isAsked 18 = .ok (.invokestatic 59, 3) := by decide +kernel
theorem dX9_isAsked_21 : decode cX9_isAsked 21 = .ok (.aload_n 0, 1) := by decide +kernel
theorem dX9_isAsked_22 : decode cX9_isAsked 22 = .ok (.getfield 69, 3) := by decide +kernel
theorem dX9_isAsked_25 : decode cX9_isAsked 25 = .ok (.if_icmp .ne 7, 3) := by decide +kernel
theorem dX9_isAsked_28 : decode cX9_isAsked 28 = .ok (.iconst 1, 1) := by decide +kernel
theorem dX9_isAsked_29 : decode cX9_isAsked 29 = .ok (.goto 4, 3) := by decide +kernel
theorem dX9_isAsked_32 : decode cX9_isAsked 32 = .ok (.iconst 0, 1) := by decide +kernel
theorem dX9_isAsked_33 : decode cX9_isAsked 33 = .ok (.ireturn, 1) := by decide +kernel
set_option maxRecDepth 20000 in
theorem ggX9_countAsked_X9_isAsked : GoodIn wsX9_countAsked wsX9_isAsked := goodIn_r _ [7, 8, 9, 10, 11, 6, 12, 13, 14, 15, 16, 17, 18, 19, 20, 21, 22, 23, 24, 25, 26, 27, 28, 29, 30, 31, 32, 33, 34, 35, 36, 37, 38, 39] (by decide +kernel) (by decide +kernel)
set_option maxRecDepth 20000 in
theorem gX9_countAsked_X9_isAsked : GoodIn wsX9_countAsked (wsV RX9 97 RX9 yX9_isAsked wsX9_isAsked) := goodIn_app (goodIn_of _ (by decide +kernel)) ggX9_countAsked_X9_isAsked
theorem dX9_countAsked_0 : decode cX9_countAsked 0 = .ok (.iconst 0, 1) := by decide +kernel
theorem dX9_countAsked_1 : decode cX9_countAsked 1 = .ok (.istore_n 2, 1) := by decide +kernel
theorem dX9_countAsked_2 : decode cX9_countAsked 2 = .ok (.iconst 0, 1) := by decide +kernel
theorem dX9_countAsked_3 : decode cX9_countAsked 3 = .ok (.istore_n 3, 1) := by decide +kernel
theorem dX9_countAsked_4 : decode cX9_countAsked 4 = .ok (.iload_n 3, 1) := by decide +kernel
theorem dX9_countAsked_5 : decode cX9_countAsked 5 = .ok (.aload_n 0, 1) := by decide +kernel
theorem dX9_countAsked_6 : decode cX9_countAsked 6 = .ok (.getfield 76, 3) := by decide +kernel
theorem dX9_countAsked_9 : decode cX9_countAsked 9 = .ok (.if_icmp .ge 31, 3) := by decide +kernel
theorem dX9_countAsked_12 : decode cX9_countAsked 12 = .ok (.iload_n 2, 1) := by decide +kernel
theorem dX9_countAsked_13 : decode cX9_countAsked 13 = .ok (.aload_n 0, 1) := by decide +kernel
theorem dX9_countAsked_14 : decode cX9_countAsked 14 = .ok (.aload_n 0, 1) := by decide +kernel
theorem dX9_countAsked_15 : decode cX9_countAsked 15 = .ok (.getfield 7, 3) := by decide +kernel
theorem dX9_countAsked_18 : decode cX9_countAsked 18 = .ok (.iload_n 3, 1) := by decide +kernel
theorem dX9_countAsked_19 : decode cX9_countAsked 19 = .ok (.laload, 1) := by decide +kernel
theorem dX9_countAsked_20 : decode cX9_countAsked 20 = .ok (.iload_n 1, 1) := by decide +kernel
theorem dX9_countAsked_21 : decode cX9_countAsked 21 = .ok (.invokevirtual 97, 3) := by decide +kernel
theorem dX9_countAsked_24 : decode cX9_countAsked 24 = .ok (.ifCond .eq 7, 3) := by decide +kernel
theorem dX9_countAsked_27 : decode cX9_countAsked 27 = .ok (.iconst 1, 1) := by decide +kernel
theorem dX9_countAsked_28 : decode cX9_countAsked 28 = .ok (.goto 4, 3) := by decide +kernel
theorem dX9_countAsked_31 : decode cX9_countAsked 31 = .ok (.iconst 0, 1) := by decide +kernel
theorem dX9_countAsked_32 : decode cX9_countAsked 32 = .ok (.iadd, 1) := by decide +kernel
theorem dX9_countAsked_33 : decode cX9_countAsked 33 = .ok (.istore_n 2, 1) := by decide +kernel
theorem dX9_countAsked_34 : decode cX9_countAsked 34 = .ok (.iinc 3 1, 3) := by decide +kernel
theorem dX9_countAsked_37 : decode cX9_countAsked 37 = .ok (.goto (-33), 3) := by decide +kernel
theorem dX9_countAsked_40 : decode cX9_countAsked 40 = .ok (.iload_n 2, 1) := by decide +kernel
theorem dX9_countAsked_41 : decode cX9_countAsked 41 = .ok (.ireturn, 1) := by decide +kernel
set_option maxRecDepth 20000 in
theorem ggX9_asked_X9_isAsked : GoodIn wsX9_asked wsX9_isAsked := goodIn_r _ [7, 8, 9, 10, 11, 6, 12, 13, 14, 15, 16, 17, 18, 19, 20, 24, 25, 26, 27, 28, 29, 30, 31, 32, 33, 34, 35, 36, 37, 38, 39, 40, 41, 42] (by decide +kernel) (by decide +kernel)
set_option maxRecDepth 20000 in
theorem gX9_asked_X9_isAsked : GoodIn wsX9_asked (wsV RX9 97 RX9 yX9_isAsked wsX9_isAsked) := goodIn_app (goodIn_of _ (by decide +kernel)) ggX9_asked_X9_isAsked
set_option maxRecDepth 20000 in
theorem ggX9_asked_X9_key : GoodIn wsX9_asked wsX9_key := goodIn_r _ [23, 18, 19, 6, 20] (by decide +kernel) (by decide +kernel)
set_option maxRecDepth 20000 in
theorem gX9_asked_X9_key : GoodIn wsX9_asked (va_wsS RX9 101 yX9_key wsX9_key) := goodIn_app (goodIn_of _ (by decide +kernel)) ggX9_asked_X9_key
theorem dX9_asked_0 : decode cX9_asked 0 = .ok (.iconst 0, 1) := by decide +kernel
theorem dX9_asked_1 : decode cX9_asked 1 = .ok (.istore_n 3, 1) := by decide +kernel
theorem dX9_asked_2 : decode cX9_asked 2 = .ok (.iload_n 3, 1) := by decide +kernel
theorem dX9_asked_3 : decode cX9_asked 3 = .ok (.aload_n 0, 1) := by decide +kernel
theorem dX9_asked_4 : decode cX9_asked 4 = .ok (.getfield 76, 3) := by decide +kernel
theorem dX9_asked_7 : decode cX9_asked 7 = .ok (.if_icmp .ge 105, 3) := by decide +kernel
theorem dX9_asked_10 : decode cX9_asked 10 = .ok (.iconst 0, 1) := by decide +kernel
theorem dX9_asked_11 : decode cX9_asked 11 = .ok (.istore 4, 2) := by decide +kernel
theorem dX9_asked_13 : decode cX9_asked 13 = .ok (.iconst 0, 1) := by decide +kernel
theorem dX9_asked_14 : decode cX9_asked 14 = .ok (.istore 5, 2) := by decide +kernel
theorem dX9_asked_16 : decode cX9_asked 16 = .ok (.iload 5, 2) := by decide +kernel
theorem dX9_asked_18 : decode cX9_asked 18 = .ok (.aload_n 0, 1) := by decide +kernel
theorem dX9_asked_19 : decode cX9_asked 19 = .ok (.getfield 76, 3) := by decide +kernel
theorem dX9_asked_22 : decode cX9_asked 22 = .ok (.if_icmp .ge 57, 3) := by decide +kernel
theorem dX9_asked_25 : decode cX9_asked 25 = .ok (.iload 4, 2) := by decide +kernel
theorem dX9_asked_27 : decode cX9_asked 27 = .ok (.aload_n 0, 1) := by decide +kernel
theorem dX9_asked_28 : decode cX9_asked 28 = .ok (.aload_n 0, 1) := by decide +kernel
theorem dX9_asked_29 : decode cX9_asked 29 = .ok (.getfield 7, 3) := by decide +kernel
theorem dX9_asked_32 : decode cX9_asked 32 = .ok (.iload 5, 2) := by decide +kernel
theorem dX9_asked_34 : decode cX9_asked 34 = .ok (.laload, 1) := by decide +kernel
theorem dX9_asked_35 : decode cX9_asked 35 = .ok (.iload_n 1, 1) := by decide +kernel
theorem dX9_asked_36 : decode cX9_asked 36 = .ok (.invokevirtual 97, 3) := by decide +kernel
theorem dX9_asked_39 : decode cX9_asked 39 = .ok (.ifCond .eq 30, 3) := by decide +kernel
theorem dX9_asked_42 : decode cX9_asked 42 = .ok (.aload_n 0, 1) := by decide +kernel
theorem dX9_asked_43 : decode cX9_asked 43 = .ok (.getfield 7, 3) := by decide +kernel
theorem dX9_asked_46 : decode cX9_asked 46 = .ok (.iload 5, 2) := by decide +kernel
theorem dX9_asked_48 : decode cX9_asked 48 = .ok (.laload, 1) := by decide +kernel
theorem dX9_asked_49 : decode cX9_asked 49 = .ok (.invokestatic 101, 3) := by decide +kernel
theorem dX9_asked_52 : decode cX9_asked 52 = .ok (.aload_n 0, 1) := by decide +kernel
theorem dX9_asked_53 : decode cX9_asked 53 = .ok (.getfield 7, 3) := by decide +kernel
theorem dX9_asked_56 : decode cX9_asked 56 = .ok (.iload_n 3, 1) := by decide +kernel
theorem dX9_asked_57 : decode cX9_asked 57 = .ok (.laload, 1) := by decide +kernel
theorem dX9_asked_58 : decode cX9_asked 58 = .ok (.invokestatic 101, 3) := by decide +kernel
theorem dX9_asked_61 : decode cX9_asked 61 = .ok (.lcmp, 1) := by decide +kernel
theorem dX9_asked_62 : decode cX9_asked 62 = .ok (.ifCond .ge 7, 3) := by decide +kernel
theorem dX9_asked_65 : decode cX9_asked 65 = .ok (.iconst 1, 1) := by decide +kernel
theorem dX9_asked_66 : decode cX9_asked 66 = .ok (.goto 4, 3) := by decide +kernel
theorem dX9_asked_69 : decode cX9_asked 69 = .ok (.iconst 0, 1) := by decide +kernel
theorem dX9_asked_70 : decode cX9_asked 70 = .ok (.iadd, 1) := by decide +kernel
theorem dX9_asked_71 : decode cX9_asked 71 = .ok (.istore 4, 2) := by decide +kernel
theorem dX9_asked_73 : decode cX9_asked 73 = .ok (.iinc 5 1, 3) := by decide +kernel
theorem dX9_asked_76 : decode cX9_asked 76 = .ok (.goto (-60), 3) := by decide +kernel
theorem dX9_asked_79 : decode cX9_asked 79 = .ok (.iload 4, 2) := by decide +kernel
theorem dX9_asked_81 : decode cX9_asked 81 = .ok (.iload_n 2, 1) := by decide +kernel
theorem dX9_asked_82 : decode cX9_asked 82 = .ok (.if_icmp .ne 24, 3) := by decide +kernel
theorem dX9_asked_85 : decode cX9_asked 85 = .ok (.aload_n 0, 1) := by decide +kernel
theorem dX9_asked_86 : decode cX9_asked 86 = .ok (.aload_n 0, 1) := by decide +kernel
theorem dX9_asked_87 : decode cX9_asked 87 = .ok (.getfield 7, 3) := by decide +kernel
theorem dX9_asked_90 : decode cX9_asked 90 = .ok (.iload_n 3, 1) := by decide +kernel
theorem dX9_asked_91 : decode cX9_asked 91 = .ok (.laload, 1) := by decide +kernel
theorem dX9_asked_92 : decode cX9_asked 92 = .ok (.iload_n 1, 1) := by decide +kernel
theorem dX9_asked_93 : decode cX9_asked 93 = .ok (.invokevirtual 97, 3) := by decide +kernel
theorem dX9_asked_96 : decode cX9_asked 96 = .ok (.ifCond .eq 10, 3) := by decide +kernel
theorem dX9_asked_99 : decode cX9_asked 99 = .ok (.aload_n 0, 1) := by decide +kernel
theorem dX9_asked_100 : decode cX9_asked 100 = .ok (.getfield 7, 3) := by decide +kernel
theorem dX9_asked_103 : decode cX9_asked 103 = .ok (.iload_n 3, 1) := by decide +kernel
theorem dX9_asked_104 : decode cX9_asked 104 = .ok (.laload, 1) := by decide +kernel
theorem dX9_asked_105 : decode cX9_asked 105 = .ok (.lreturn, 1) := by decide +kernel
theorem dX9_asked_106 : decode cX9_asked 106 = .ok (.iinc 3 1, 3) := by decide +kernel
theorem dX9_asked_109 : decode cX9_asked 109 = .ok (.goto (-107), 3) := by decide +kernel
theorem dX9_asked_112 : decode cX9_asked 112 = .ok (.lconst 0, 1) := by decide +kernel
theorem dX9_asked_113 : decode cX9_asked 113 = .ok (.lreturn, 1) := by decide +kernel
set_option maxRecDepth 20000 in
theorem ggX9_wordAt_X9_asked : GoodIn wsX9_wordAt wsX9_asked := goodIn_r _ [5, 6, 7, 8, 9, 10, 4, 11, 12, 13, 14, 15, 16, 17, 18, 19, 20, 21, 22, 23, 24, 25, 26, 27, 33, 34, 35, 36, 37, 38, 39, 40, 41, 42, 43, 44, 45, 46, 47, 48, 49, 50, 51] (by decide +kernel) (by decide +kernel)
set_option maxRecDepth 20000 in
theorem gX9_wordAt_X9_asked : GoodIn wsX9_wordAt (wsV RX9 105 RX9 yX9_asked wsX9_asked) := goodIn_app (goodIn_of _ (by decide +kernel)) ggX9_wordAt_X9_asked
set_option maxRecDepth 20000 in
theorem ggX9_wordAt_X9_isGood : GoodIn wsX9_wordAt wsX9_isGood := goodIn_r _ [31, 32, 33, 34, 35, 36, 37, 38, 39, 40, 41, 42, 43, 44, 45, 46, 47, 48, 49, 50, 51] (by decide +kernel) (by decide +kernel)
set_option maxRecDepth 20000 in
theorem gX9_wordAt_X9_isGood : GoodIn wsX9_wordAt (wsV RX9 83 RX9 yX9_isGood wsX9_isGood) := goodIn_app (goodIn_of _ (by decide +kernel)) ggX9_wordAt_X9_isGood
theorem dX9_wordAt_0 : decode cX9_wordAt 0 = .ok (.aload_n 0, 1) := by decide +kernel
theorem dX9_wordAt_1 : decode cX9_wordAt 1 = .ok (.iconst 0, 1) := by decide +kernel
theorem dX9_wordAt_2 : decode cX9_wordAt 2 = .ok (.iload_n 1, 1) := by decide +kernel
theorem dX9_wordAt_3 : decode cX9_wordAt 3 = .ok (.invokevirtual 105, 3) := by decide +kernel
theorem dX9_wordAt_6 : decode cX9_wordAt 6 = .ok (.lstore_n 2, 1) := by decide +kernel
theorem dX9_wordAt_7 : decode cX9_wordAt 7 = .ok (.aload_n 0, 1) := by decide +kernel
theorem dX9_wordAt_8 : decode cX9_wordAt 8 = .ok (.lload_n 2, 1) := by decide +kernel
theorem dX9_wordAt_9 : decode cX9_wordAt 9 = .ok (.lconst 0, 1) := by decide +kernel
theorem dX9_wordAt_10 : decode cX9_wordAt 10 = .ok (.lcmp, 1) := by decide +kernel
theorem dX9_wordAt_11 : decode cX9_wordAt 11 = .ok (.ifCond .eq 7, 3) := by decide +kernel
theorem dX9_wordAt_14 : decode cX9_wordAt 14 = .ok (.iconst 1, 1) := by decide +kernel
theorem dX9_wordAt_15 : decode cX9_wordAt 15 = .ok (.goto 4, 3) := by decide +kernel
theorem dX9_wordAt_18 : decode cX9_wordAt 18 = .ok (.iconst 0, 1) := by decide +kernel
theorem dX9_wordAt_19 : decode cX9_wordAt 19 = .ok (.invokevirtual 83, 3) := by decide +kernel
theorem dX9_wordAt_22 : decode cX9_wordAt 22 = .ok (.ifCond .eq 7, 3) := by decide +kernel
theorem dX9_wordAt_25 : decode cX9_wordAt 25 = .ok (.lload_n 2, 1) := by decide +kernel
theorem dX9_wordAt_26 : decode cX9_wordAt 26 = .ok (.goto 4, 3) := by decide +kernel
theorem dX9_wordAt_29 : decode cX9_wordAt 29 = .ok (.lconst 0, 1) := by decide +kernel
theorem dX9_wordAt_30 : decode cX9_wordAt 30 = .ok (.lreturn, 1) := by decide +kernel
set_option maxRecDepth 20000 in
theorem ggX9_hasWord_X9_isWord : GoodIn wsX9_hasWord wsX9_isWord := goodIn_r _ [4, 5, 6, 7, 3, 8, 9, 10, 11] (by decide +kernel) (by decide +kernel)
set_option maxRecDepth 20000 in
theorem gX9_hasWord_X9_isWord : GoodIn wsX9_hasWord (va_wsS RX9 79 yX9_isWord wsX9_isWord) := goodIn_app (goodIn_of _ (by decide +kernel)) ggX9_hasWord_X9_isWord
set_option maxRecDepth 20000 in
theorem ggX9_hasWord_X9_isGood : GoodIn wsX9_hasWord wsX9_isGood := goodIn_r _ [15, 16, 23, 24, 25, 26, 27, 28, 29, 30, 31, 32, 33, 34, 35, 36, 37, 38, 39, 40, 41] (by decide +kernel) (by decide +kernel)
set_option maxRecDepth 20000 in
theorem gX9_hasWord_X9_isGood : GoodIn wsX9_hasWord (wsV RX9 83 RX9 yX9_isGood wsX9_isGood) := goodIn_app (goodIn_of _ (by decide +kernel)) ggX9_hasWord_X9_isGood
set_option maxRecDepth 20000 in
theorem ggX9_hasWord_X9_placeOf : GoodIn wsX9_hasWord wsX9_placeOf := goodIn_r _ [20, 21, 22, 23, 24, 25, 26, 27, 28, 29, 30, 31, 32, 33, 34, 35, 36, 37, 38, 39, 40, 41] (by decide +kernel) (by decide +kernel)
set_option maxRecDepth 20000 in
theorem gX9_hasWord_X9_placeOf : GoodIn wsX9_hasWord (wsV RX9 87 RX9 yX9_placeOf wsX9_placeOf) := goodIn_app (goodIn_of _ (by decide +kernel)) ggX9_hasWord_X9_placeOf
theorem dX9_hasWord_0 : decode cX9_hasWord 0 = .ok (.aload_n 0, 1) := by decide +kernel
theorem dX9_hasWord_1 : decode cX9_hasWord 1 = .ok (.lload_n 1, 1) := by decide +kernel
theorem dX9_hasWord_2 : decode cX9_hasWord 2 = .ok (.invokestatic 79, 3) := by decide +kernel
theorem dX9_hasWord_5 : decode cX9_hasWord 5 = .ok (.invokevirtual 83, 3) := by decide +kernel
theorem dX9_hasWord_8 : decode cX9_hasWord 8 = .ok (.ifCond .eq 16, 3) := by decide +kernel
theorem dX9_hasWord_11 : decode cX9_hasWord 11 = .ok (.aload_n 0, 1) := by decide +kernel
theorem dX9_hasWord_12 : decode cX9_hasWord 12 = .ok (.lload_n 1, 1) := by decide +kernel
theorem dX9_hasWord_13 : decode cX9_hasWord 13 = .ok (.invokevirtual 87, 3) := by decide +kernel
theorem dX9_hasWord_16 : decode cX9_hasWord 16 = .ok (.iconst (-1), 1) := by decide +kernel
theorem dX9_hasWord_17 : decode cX9_hasWord 17 = .ok (.if_icmp .eq 7, 3) := by decide +kernel
theorem dX9_hasWord_20 : decode cX9_hasWord 20 = .ok (.iconst 1, 1) := by decide +kernel
theorem dX9_hasWord_21 : decode cX9_hasWord 21 = .ok (.goto 4, 3) := by decide +kernel
theorem dX9_hasWord_24 : decode cX9_hasWord 24 = .ok (.iconst 0, 1) := by decide +kernel
theorem dX9_hasWord_25 : decode cX9_hasWord 25 = .ok (.ireturn, 1) := by decide +kernel
set_option maxRecDepth 20000 in
theorem ggX9_count_X9_isWord : GoodIn wsX9_count wsX9_isWord := goodIn_r _ [4, 5, 6, 7, 3, 8, 9, 10, 11] (by decide +kernel) (by decide +kernel)
set_option maxRecDepth 20000 in
theorem gX9_count_X9_isWord : GoodIn wsX9_count (va_wsS RX9 79 yX9_isWord wsX9_isWord) := goodIn_app (goodIn_of _ (by decide +kernel)) ggX9_count_X9_isWord
set_option maxRecDepth 20000 in
theorem ggX9_count_X9_isGood : GoodIn wsX9_count wsX9_isGood := goodIn_r _ [15, 16, 41, 42, 43, 44, 45, 46, 47, 48, 49, 50, 51, 52, 53, 54, 55, 56, 57, 58, 59] (by decide +kernel) (by decide +kernel)
set_option maxRecDepth 20000 in
theorem gX9_count_X9_isGood : GoodIn wsX9_count (wsV RX9 83 RX9 yX9_isGood wsX9_isGood) := goodIn_app (goodIn_of _ (by decide +kernel)) ggX9_count_X9_isGood
set_option maxRecDepth 20000 in
theorem ggX9_count_X9_spell : GoodIn wsX9_count wsX9_spell := goodIn_r _ [20, 21, 22, 23, 6, 7, 3, 8, 41, 42, 43, 44, 45, 46, 47, 48, 49, 50, 51, 52, 53, 54, 55, 56, 57, 58, 59] (by decide +kernel) (by decide +kernel)
set_option maxRecDepth 20000 in
theorem gX9_count_X9_spell : GoodIn wsX9_count (wsV RX9 109 RX9 yX9_spell wsX9_spell) := goodIn_app (goodIn_of _ (by decide +kernel)) ggX9_count_X9_spell
set_option maxRecDepth 20000 in
theorem ggX9_count_X9_countAsked : GoodIn wsX9_count wsX9_countAsked := goodIn_r _ [27, 28, 29, 30, 31, 32, 3, 33, 21, 34, 35, 36, 37, 5, 22, 38, 39, 40, 6, 7, 8, 41, 42, 43, 44, 45, 46, 47, 48, 49, 50, 51, 52, 53, 54, 55, 56, 57, 58, 59] (by decide +kernel) (by decide +kernel)
set_option maxRecDepth 20000 in
theorem gX9_count_X9_countAsked : GoodIn wsX9_count (wsV RX9 113 RX9 yX9_countAsked wsX9_countAsked) := goodIn_app (goodIn_of _ (by decide +kernel)) ggX9_count_X9_countAsked
theorem dX9_count_0 : decode cX9_count 0 = .ok (.aload_n 0, 1) := by decide +kernel
theorem dX9_count_1 : decode cX9_count 1 = .ok (.lload_n 1, 1) := by decide +kernel
theorem dX9_count_2 : decode cX9_count 2 = .ok (.invokestatic 79, 3) := by decide +kernel
theorem dX9_count_5 : decode cX9_count 5 = .ok (.invokevirtual 83, 3) := by decide +kernel
theorem dX9_count_8 : decode cX9_count 8 = .ok (.ifCond .ne 5, 3) := by decide +kernel
theorem dX9_count_11 : decode cX9_count 11 = .ok (.iconst 0, 1) := by decide +kernel
theorem dX9_count_12 : decode cX9_count 12 = .ok (.ireturn, 1) := by decide +kernel
theorem dX9_count_13 : decode cX9_count 13 = .ok (.aload_n 0, 1) := by decide +kernel
theorem dX9_count_14 : decode cX9_count 14 = .ok (.lload_n 1, 1) := by decide +kernel
theorem dX9_count_15 : decode cX9_count 15 = .ok (.invokevirtual 109, 3) := by decide +kernel
theorem dX9_count_18 : decode cX9_count 18 = .ok (.aload_n 0, 1) := by decide +kernel
theorem dX9_count_19 : decode cX9_count 19 = .ok (.iload_n 3, 1) := by decide +kernel
theorem dX9_count_20 : decode cX9_count 20 = .ok (.invokevirtual 113, 3) := by decide +kernel
theorem dX9_count_23 : decode cX9_count 23 = .ok (.ireturn, 1) := by decide +kernel
set_option maxRecDepth 20000 in
theorem ggX9_find_X9_isWord : GoodIn wsX9_find wsX9_isWord := goodIn_r _ [4, 5, 6, 7, 3, 8, 9, 10, 11] (by decide +kernel) (by decide +kernel)
set_option maxRecDepth 20000 in
theorem gX9_find_X9_isWord : GoodIn wsX9_find (va_wsS RX9 79 yX9_isWord wsX9_isWord) := goodIn_app (goodIn_of _ (by decide +kernel)) ggX9_find_X9_isWord
set_option maxRecDepth 20000 in
theorem ggX9_find_X9_isGood : GoodIn wsX9_find wsX9_isGood := goodIn_r _ [15, 16, 48, 49, 50, 51, 52, 53, 54, 55, 56, 57, 58, 59, 60, 61, 62, 63, 64, 65, 66] (by decide +kernel) (by decide +kernel)
set_option maxRecDepth 20000 in
theorem gX9_find_X9_isGood : GoodIn wsX9_find (wsV RX9 83 RX9 yX9_isGood wsX9_isGood) := goodIn_app (goodIn_of _ (by decide +kernel)) ggX9_find_X9_isGood
set_option maxRecDepth 20000 in
theorem ggX9_find_X9_spell : GoodIn wsX9_find wsX9_spell := goodIn_r _ [20, 21, 22, 23, 6, 7, 3, 8, 48, 49, 50, 51, 52, 53, 54, 55, 56, 57, 58, 59, 60, 61, 62, 63, 64, 65, 66] (by decide +kernel) (by decide +kernel)
set_option maxRecDepth 20000 in
theorem gX9_find_X9_spell : GoodIn wsX9_find (wsV RX9 109 RX9 yX9_spell wsX9_spell) := goodIn_app (goodIn_of _ (by decide +kernel)) ggX9_find_X9_spell
set_option maxRecDepth 20000 in
theorem ggX9_find_X9_asked : GoodIn wsX9_find wsX9_asked := goodIn_r _ [27, 28, 29, 30, 31, 32, 3, 33, 21, 34, 35, 36, 37, 5, 22, 38, 39, 40, 6, 7, 8, 41, 42, 43, 48, 49, 50, 51, 52, 53, 54, 55, 56, 57, 58, 59, 60, 61, 62, 63, 64, 65, 66] (by decide +kernel) (by decide +kernel)
set_option maxRecDepth 20000 in
theorem gX9_find_X9_asked : GoodIn wsX9_find (wsV RX9 105 RX9 yX9_asked wsX9_asked) := goodIn_app (goodIn_of _ (by decide +kernel)) ggX9_find_X9_asked
set_option maxRecDepth 20000 in
theorem ggX9_find_X9_fail : GoodIn wsX9_find wsX9_fail := goodIn_r _ [47, 16, 48, 49, 50, 51, 52, 53, 54, 55, 56, 57, 58, 59, 60, 61, 62, 63, 64, 65, 66] (by decide +kernel) (by decide +kernel)
set_option maxRecDepth 20000 in
theorem gX9_find_X9_fail : GoodIn wsX9_find (wsV RX9 90 RX9 yX9_fail wsX9_fail) := goodIn_app (goodIn_of _ (by decide +kernel)) ggX9_find_X9_fail
theorem dX9_find_0 : decode cX9_find 0 = .ok (.aload_n 0, 1) := by decide +kernel
theorem dX9_find_1 : decode cX9_find 1 = .ok (.lload_n 1, 1) := by decide +kernel
theorem dX9_find_2 : decode cX9_find 2 = .ok (.invokestatic 79, 3) := by decide +kernel
theorem dX9_find_5 : decode cX9_find 5 = .ok (.invokevirtual 83, 3) := by decide +kernel
theorem dX9_find_8 : decode cX9_find 8 = .ok (.ifCond .ne 5, 3) := by decide +kernel
theorem dX9_find_11 : decode cX9_find 11 = .ok (.lconst 0, 1) := by decide +kernel
theorem dX9_find_12 : decode cX9_find 12 = .ok (.lreturn, 1) := by decide +kernel
theorem dX9_find_13 : decode cX9_find 13 = .ok (.aload_n 0, 1) := by decide +kernel
theorem dX9_find_14 : decode cX9_find 14 = .ok (.lload_n 1, 1) := by decide +kernel
theorem dX9_find_15 : decode cX9_find 15 = .ok (.invokevirtual 109, 3) := by decide +kernel
theorem dX9_find_18 : decode cX9_find 18 = .ok (.aload_n 0, 1) := by decide +kernel
theorem dX9_find_19 : decode cX9_find 19 = .ok (.iload_n 3, 1) := by decide +kernel
theorem dX9_find_20 : decode cX9_find 20 = .ok (.iload 4, 2) := by decide +kernel
theorem dX9_find_22 : decode cX9_find 22 = .ok (.invokevirtual 105, 3) := by decide +kernel
theorem dX9_find_25 : decode cX9_find 25 = .ok (.lstore 5, 2) := by decide +kernel
theorem dX9_find_27 : decode cX9_find 27 = .ok (.lload 5, 2) := by decide +kernel
theorem dX9_find_29 : decode cX9_find 29 = .ok (.lconst 0, 1) := by decide +kernel
theorem dX9_find_30 : decode cX9_find 30 = .ok (.lcmp, 1) := by decide +kernel
theorem dX9_find_31 : decode cX9_find 31 = .ok (.ifCond .ne 12, 3) := by decide +kernel
theorem dX9_find_34 : decode cX9_find 34 = .ok (.aload_n 0, 1) := by decide +kernel
theorem dX9_find_35 : decode cX9_find 35 = .ok (.iconst 2, 1) := by decide +kernel
theorem dX9_find_36 : decode cX9_find 36 = .ok (.invokevirtual 90, 3) := by decide +kernel
theorem dX9_find_39 : decode cX9_find 39 = .ok (.i2l, 1) := by decide +kernel
theorem dX9_find_40 : decode cX9_find 40 = .ok (.goto 5, 3) := by decide +kernel
theorem dX9_find_43 : decode cX9_find 43 = .ok (.lload 5, 2) := by decide +kernel
theorem dX9_find_45 : decode cX9_find 45 = .ok (.lreturn, 1) := by decide +kernel
set_option maxRecDepth 20000 in
theorem ggX9_anagramCount_X9_count : GoodIn wsX9_anagramCount wsX9_count := goodIn_r _ [5, 6, 7, 4, 8, 9, 10, 11, 12, 13, 14, 15, 16, 17, 18, 19, 20, 21, 22, 23, 24, 25, 26, 27, 28, 29, 30, 31, 32, 33, 34, 35, 36, 37, 38, 39, 40, 41, 42, 43, 44, 45, 46, 47, 48, 49, 50, 51, 52, 53, 54, 55, 56, 57, 58, 59, 60, 61, 62, 63] (by decide +kernel) (by decide +kernel)
set_option maxRecDepth 20000 in
theorem gX9_anagramCount_X9_count : GoodIn wsX9_anagramCount (wsV RX9 116 RX9 yX9_count wsX9_count) := goodIn_app (goodIn_of _ (by decide +kernel)) ggX9_anagramCount_X9_count
theorem dX9_anagramCount_0 : decode cX9_anagramCount 0 = .ok (.aload_n 0, 1) := by decide +kernel
theorem dX9_anagramCount_1 : decode cX9_anagramCount 1 = .ok (.lload_n 1, 1) := by decide +kernel
theorem dX9_anagramCount_2 : decode cX9_anagramCount 2 = .ok (.iconst 2, 1) := by decide +kernel
theorem dX9_anagramCount_3 : decode cX9_anagramCount 3 = .ok (.invokevirtual 116, 3) := by decide +kernel
theorem dX9_anagramCount_6 : decode cX9_anagramCount 6 = .ok (.ireturn, 1) := by decide +kernel
set_option maxRecDepth 20000 in
theorem ggX9_anagramAt_X9_find : GoodIn wsX9_anagramAt wsX9_find := goodIn_r _ [5, 6, 7, 4, 8, 9, 10, 11, 12, 13, 14, 15, 16, 17, 18, 19, 20, 21, 22, 23, 24, 25, 26, 27, 28, 29, 30, 31, 32, 33, 34, 35, 36, 37, 38, 39, 40, 41, 42, 43, 44, 45, 46, 47, 48, 49, 50, 51, 52, 53, 54, 55, 56, 57, 58, 59, 60, 61, 62, 63, 64, 65, 66, 67, 68, 69, 70] (by decide +kernel) (by decide +kernel)
set_option maxRecDepth 20000 in
theorem gX9_anagramAt_X9_find : GoodIn wsX9_anagramAt (wsV RX9 119 RX9 yX9_find wsX9_find) := goodIn_app (goodIn_of _ (by decide +kernel)) ggX9_anagramAt_X9_find
theorem dX9_anagramAt_0 : decode cX9_anagramAt 0 = .ok (.aload_n 0, 1) := by decide +kernel
theorem dX9_anagramAt_1 : decode cX9_anagramAt 1 = .ok (.lload_n 1, 1) := by decide +kernel
theorem dX9_anagramAt_2 : decode cX9_anagramAt 2 = .ok (.iconst 2, 1) := by decide +kernel
theorem dX9_anagramAt_3 : decode cX9_anagramAt 3 = .ok (.iload_n 3, 1) := by decide +kernel
theorem dX9_anagramAt_4 : decode cX9_anagramAt 4 = .ok (.invokevirtual 119, 3) := by decide +kernel
theorem dX9_anagramAt_7 : decode cX9_anagramAt 7 = .ok (.lreturn, 1) := by decide +kernel
set_option maxRecDepth 20000 in
theorem ggX9_largestAnagramGroup_X9_spell : GoodIn wsX9_largestAnagramGroup wsX9_spell := goodIn_r _ [12, 13, 14, 15, 16, 17, 11, 18, 35, 36, 37, 38, 39, 40, 41, 42, 43, 44, 45, 46, 47, 48, 49, 50, 51, 52, 53] (by decide +kernel) (by decide +kernel)
set_option maxRecDepth 20000 in
theorem gX9_largestAnagramGroup_X9_spell : GoodIn wsX9_largestAnagramGroup (wsV RX9 109 RX9 yX9_spell wsX9_spell) := goodIn_app (goodIn_of _ (by decide +kernel)) ggX9_largestAnagramGroup_X9_spell
set_option maxRecDepth 20000 in
theorem ggX9_largestAnagramGroup_X9_countAsked : GoodIn wsX9_largestAnagramGroup wsX9_countAsked := goodIn_r _ [22, 2, 3, 23, 24, 25, 11, 26, 13, 27, 28, 29, 30, 31, 14, 32, 33, 34, 16, 17, 18, 35, 36, 37, 38, 39, 40, 41, 42, 43, 44, 45, 46, 47, 48, 49, 50, 51, 52, 53] (by decide +kernel) (by decide +kernel)
set_option maxRecDepth 20000 in
theorem gX9_largestAnagramGroup_X9_countAsked : GoodIn wsX9_largestAnagramGroup (wsV RX9 113 RX9 yX9_countAsked wsX9_countAsked) := goodIn_app (goodIn_of _ (by decide +kernel)) ggX9_largestAnagramGroup_X9_countAsked
theorem dX9_largestAnagramGroup_0 : decode cX9_largestAnagramGroup 0 = .ok (.aload_n 0, 1) := by decide +kernel
theorem dX9_largestAnagramGroup_1 : decode cX9_largestAnagramGroup 1 = .ok (.iconst 0, 1) := by decide +kernel
theorem dX9_largestAnagramGroup_2 : decode cX9_largestAnagramGroup 2 = .ok (.putfield 55, 3) := by decide +kernel
theorem dX9_largestAnagramGroup_5 : decode cX9_largestAnagramGroup 5 = .ok (.iconst 0, 1) := by decide +kernel
theorem dX9_largestAnagramGroup_6 : decode cX9_largestAnagramGroup 6 = .ok (.istore_n 1, 1) := by decide +kernel
theorem dX9_largestAnagramGroup_7 : decode cX9_largestAnagramGroup 7 = .ok (.iconst 0, 1) := by decide +kernel
theorem dX9_largestAnagramGroup_8 : decode cX9_largestAnagramGroup 8 = .ok (.istore_n 2, 1) := by decide +kernel
theorem dX9_largestAnagramGroup_9 : decode cX9_largestAnagramGroup 9 = .ok (.iload_n 2, 1) := by decide +kernel
theorem dX9_largestAnagramGroup_10 : decode cX9_largestAnagramGroup 10 = .ok (.aload_n 0, 1) := by decide +kernel
theorem dX9_largestAnagramGroup_11 : decode cX9_largestAnagramGroup 11 = .ok (.getfield 76, 3) := by decide +kernel
theorem dX9_largestAnagramGroup_14 : decode cX9_largestAnagramGroup 14 = .ok (.if_icmp .ge 29, 3) := by decide +kernel
theorem dX9_largestAnagramGroup_17 : decode cX9_largestAnagramGroup 17 = .ok (.aload_n 0, 1) := by decide +kernel
theorem dX9_largestAnagramGroup_18 : decode cX9_largestAnagramGroup 18 = .ok (.aload_n 0, 1) := by decide +kernel
theorem dX9_largestAnagramGroup_19 : decode cX9_largestAnagramGroup 19 = .ok (.getfield 7, 3) := by decide +kernel
theorem dX9_largestAnagramGroup_22 : decode cX9_largestAnagramGroup 22 = .ok (.iload_n 2, 1) := by decide +kernel
theorem dX9_largestAnagramGroup_23 : decode cX9_largestAnagramGroup 23 = .ok (.laload, 1) := by decide +kernel
theorem dX9_largestAnagramGroup_24 : decode cX9_largestAnagramGroup 24 = .ok (.invokevirtual 109, 3) := by decide +kernel
theorem dX9_largestAnagramGroup_27 : decode cX9_largestAnagramGroup 27 = .ok (.iload_n 1, 1) := by decide +kernel
theorem dX9_largestAnagramGroup_28 : decode cX9_largestAnagramGroup 28 = .ok (.aload_n 0, 1) := by decide +kernel
theorem dX9_largestAnagramGroup_29 : decode cX9_largestAnagramGroup 29 = .ok (.iconst 2, 1) := by decide +kernel
theorem dX9_largestAnagramGroup_30 : decode cX9_largestAnagramGroup 30 = .ok (.invokevirtual 113, 3) := by decide +kernel
theorem dX9_largestAnagramGroup_33 : decode cX9_largestAnagramGroup 33 = .ok (.invokestatic 123, 3) := by decide +kernel
theorem dX9_largestAnagramGroup_36 : decode cX9_largestAnagramGroup 36 = .ok (.istore_n 1, 1) := by decide +kernel
theorem dX9_largestAnagramGroup_37 : decode cX9_largestAnagramGroup 37 = .ok (.iinc 2 1, 3) := by decide +kernel
theorem dX9_largestAnagramGroup_40 : decode cX9_largestAnagramGroup 40 = .ok (.goto (-31), 3) := by decide +kernel
theorem dX9_largestAnagramGroup_43 : decode cX9_largestAnagramGroup 43 = .ok (.iload_n 1, 1) := by decide +kernel
theorem dX9_largestAnagramGroup_44 : decode cX9_largestAnagramGroup 44 = .ok (.ireturn, 1) := by decide +kernel
set_option maxRecDepth 20000 in
theorem ggX9_fittingCount_X9_count : GoodIn wsX9_fittingCount wsX9_count := goodIn_r _ [5, 6, 7, 4, 8, 9, 10, 11, 12, 13, 14, 15, 16, 17, 18, 19, 20, 21, 22, 23, 24, 25, 26, 27, 28, 29, 30, 31, 32, 33, 34, 35, 36, 37, 38, 39, 40, 41, 42, 43, 44, 45, 46, 47, 48, 49, 50, 51, 52, 53, 54, 55, 56, 57, 58, 59, 60, 61, 62, 63] (by decide +kernel) (by decide +kernel)
set_option maxRecDepth 20000 in
theorem gX9_fittingCount_X9_count : GoodIn wsX9_fittingCount (wsV RX9 116 RX9 yX9_count wsX9_count) := goodIn_app (goodIn_of _ (by decide +kernel)) ggX9_fittingCount_X9_count
theorem dX9_fittingCount_0 : decode cX9_fittingCount 0 = .ok (.aload_n 0, 1) := by decide +kernel
theorem dX9_fittingCount_1 : decode cX9_fittingCount 1 = .ok (.lload_n 1, 1) := by decide +kernel
theorem dX9_fittingCount_2 : decode cX9_fittingCount 2 = .ok (.iconst 1, 1) := by decide +kernel
theorem dX9_fittingCount_3 : decode cX9_fittingCount 3 = .ok (.invokevirtual 116, 3) := by decide +kernel
theorem dX9_fittingCount_6 : decode cX9_fittingCount 6 = .ok (.ireturn, 1) := by decide +kernel
set_option maxRecDepth 20000 in
theorem ggX9_fittingWord_X9_find : GoodIn wsX9_fittingWord wsX9_find := goodIn_r _ [5, 6, 7, 4, 8, 9, 10, 11, 12, 13, 14, 15, 16, 17, 18, 19, 20, 21, 22, 23, 24, 25, 26, 27, 28, 29, 30, 31, 32, 33, 34, 35, 36, 37, 38, 39, 40, 41, 42, 43, 44, 45, 46, 47, 48, 49, 50, 51, 52, 53, 54, 55, 56, 57, 58, 59, 60, 61, 62, 63, 64, 65, 66, 67, 68, 69, 70] (by decide +kernel) (by decide +kernel)
set_option maxRecDepth 20000 in
theorem gX9_fittingWord_X9_find : GoodIn wsX9_fittingWord (wsV RX9 119 RX9 yX9_find wsX9_find) := goodIn_app (goodIn_of _ (by decide +kernel)) ggX9_fittingWord_X9_find
theorem dX9_fittingWord_0 : decode cX9_fittingWord 0 = .ok (.aload_n 0, 1) := by decide +kernel
theorem dX9_fittingWord_1 : decode cX9_fittingWord 1 = .ok (.lload_n 1, 1) := by decide +kernel
theorem dX9_fittingWord_2 : decode cX9_fittingWord 2 = .ok (.iconst 1, 1) := by decide +kernel
theorem dX9_fittingWord_3 : decode cX9_fittingWord 3 = .ok (.iload_n 3, 1) := by decide +kernel
theorem dX9_fittingWord_4 : decode cX9_fittingWord 4 = .ok (.invokevirtual 119, 3) := by decide +kernel
theorem dX9_fittingWord_7 : decode cX9_fittingWord 7 = .ok (.lreturn, 1) := by decide +kernel
theorem dX9_total_0 : decode cX9_total 0 = .ok (.iconst 0, 1) := by decide +kernel
theorem dX9_total_1 : decode cX9_total 1 = .ok (.istore_n 1, 1) := by decide +kernel
theorem dX9_total_2 : decode cX9_total 2 = .ok (.iconst 1, 1) := by decide +kernel
theorem dX9_total_3 : decode cX9_total 3 = .ok (.istore_n 2, 1) := by decide +kernel
theorem dX9_total_4 : decode cX9_total 4 = .ok (.iload_n 2, 1) := by decide +kernel
theorem dX9_total_5 : decode cX9_total 5 = .ok (.bipush 26, 2) := by decide +kernel
theorem dX9_total_7 : decode cX9_total 7 = .ok (.if_icmp .gt 18, 3) := by decide +kernel
theorem dX9_total_10 : decode cX9_total 10 = .ok (.iload_n 1, 1) := by decide +kernel
theorem dX9_total_11 : decode cX9_total 11 = .ok (.aload_n 0, 1) := by decide +kernel
theorem dX9_total_12 : decode cX9_total 12 = .ok (.getfield 13, 3) := by decide +kernel
theorem dX9_total_15 : decode cX9_total 15 = .ok (.iload_n 2, 1) := by decide +kernel
theorem dX9_total_16 : decode cX9_total 16 = .ok (.iaload, 1) := by decide +kernel
theorem dX9_total_17 : decode cX9_total 17 = .ok (.iadd, 1) := by decide +kernel
theorem dX9_total_18 : decode cX9_total 18 = .ok (.istore_n 1, 1) := by decide +kernel
theorem dX9_total_19 : decode cX9_total 19 = .ok (.iinc 2 1, 3) := by decide +kernel
theorem dX9_total_22 : decode cX9_total 22 = .ok (.goto (-18), 3) := by decide +kernel
theorem dX9_total_25 : decode cX9_total 25 = .ok (.iload_n 1, 1) := by decide +kernel
theorem dX9_total_26 : decode cX9_total 26 = .ok (.ireturn, 1) := by decide +kernel
set_option maxRecDepth 20000 in
theorem ggX9_cut_X9_isWord : GoodIn wsX9_cut wsX9_isWord := goodIn_r _ [7, 8, 9, 10, 6, 11, 12, 13, 14] (by decide +kernel) (by decide +kernel)
set_option maxRecDepth 20000 in
theorem gX9_cut_X9_isWord : GoodIn wsX9_cut (va_wsS RX9 79 yX9_isWord wsX9_isWord) := goodIn_app (goodIn_of _ (by decide +kernel)) ggX9_cut_X9_isWord
set_option maxRecDepth 20000 in
theorem ggX9_cut_X9_isWithin : GoodIn wsX9_cut wsX9_isWithin := goodIn_r _ [14] (by decide +kernel) (by decide +kernel)
set_option maxRecDepth 20000 in
theorem gX9_cut_X9_isWithin : GoodIn wsX9_cut (va_wsS RX9 65 yX9_isWithin wsX9_isWithin) := goodIn_app (goodIn_of _ (by decide +kernel)) ggX9_cut_X9_isWithin
set_option maxRecDepth 20000 in
theorem ggX9_cut_X9_isGood : GoodIn wsX9_cut wsX9_isGood := goodIn_r _ [18, 19, 34, 35, 36, 37, 38, 39, 40, 41, 42, 43, 44, 45, 46, 47, 48, 49, 50, 51, 52] (by decide +kernel) (by decide +kernel)
set_option maxRecDepth 20000 in
theorem gX9_cut_X9_isGood : GoodIn wsX9_cut (wsV RX9 83 RX9 yX9_isGood wsX9_isGood) := goodIn_app (goodIn_of _ (by decide +kernel)) ggX9_cut_X9_isGood
set_option maxRecDepth 20000 in
theorem ggX9_cut_X9_spell : GoodIn wsX9_cut wsX9_spell := goodIn_r _ [23, 24, 2, 25, 9, 10, 6, 11, 34, 35, 36, 37, 38, 39, 40, 41, 42, 43, 44, 45, 46, 47, 48, 49, 50, 51, 52] (by decide +kernel) (by decide +kernel)
set_option maxRecDepth 20000 in
theorem gX9_cut_X9_spell : GoodIn wsX9_cut (wsV RX9 109 RX9 yX9_spell wsX9_spell) := goodIn_app (goodIn_of _ (by decide +kernel)) ggX9_cut_X9_spell
set_option maxRecDepth 20000 in
theorem ggX9_cut_X9_fail : GoodIn wsX9_cut wsX9_fail := goodIn_r _ [29, 19, 34, 35, 36, 37, 38, 39, 40, 41, 42, 43, 44, 45, 46, 47, 48, 49, 50, 51, 52] (by decide +kernel) (by decide +kernel)
set_option maxRecDepth 20000 in
theorem gX9_cut_X9_fail : GoodIn wsX9_cut (wsV RX9 90 RX9 yX9_fail wsX9_fail) := goodIn_app (goodIn_of _ (by decide +kernel)) ggX9_cut_X9_fail
set_option maxRecDepth 20000 in
theorem ggX9_cut_X9_total : GoodIn wsX9_cut wsX9_total := goodIn_r _ [33, 1, 34, 35, 36, 37, 38, 39, 40, 41, 42, 43, 44, 45, 46, 47, 48, 49, 50, 51, 52] (by decide +kernel) (by decide +kernel)
set_option maxRecDepth 20000 in
theorem gX9_cut_X9_total : GoodIn wsX9_cut (wsV RX9 129 RX9 yX9_total wsX9_total) := goodIn_app (goodIn_of _ (by decide +kernel)) ggX9_cut_X9_total
theorem dX9_cut_0 : decode cX9_cut 0 = .ok (.aload_n 0, 1) := by decide +kernel
theorem dX9_cut_1 : decode cX9_cut 1 = .ok (.lload_n 1, 1) := by decide +kernel
theorem dX9_cut_2 : decode cX9_cut 2 = .ok (.invokestatic 79, 3) := by decide +kernel
theorem dX9_cut_5 : decode cX9_cut 5 = .ok (.ifCond .eq 17, 3) := by decide +kernel
theorem dX9_cut_8 : decode cX9_cut 8 = .ok (.iload_n 3, 1) := by decide +kernel
theorem dX9_cut_9 : decode cX9_cut 9 = .ok (.iconst 1, 1) := by decide +kernel
theorem dX9_cut_10 : decode cX9_cut 10 = .ok (.bipush 50, 2) := by decide +kernel
theorem dX9_cut_12 : decode cX9_cut 12 = .ok (.invokestatic 65, 3) := by decide +kernel
theorem dX9_cut_15 : decode cX9_cut 15 = .ok (.ifCond .eq 7, 3) := by decide +kernel
theorem dX9_cut_18 : decode cX9_cut 18 = .ok (.iconst 1, 1) := by decide +kernel
theorem dX9_cut_19 : decode cX9_cut 19 = .ok (.goto 4, 3) := by decide +kernel
theorem dX9_cut_22 : decode cX9_cut 22 = .ok (.iconst 0, 1) := by decide +kernel
theorem dX9_cut_23 : decode cX9_cut 23 = .ok (.invokevirtual 83, 3) := by decide +kernel
theorem dX9_cut_26 : decode cX9_cut 26 = .ok (.ifCond .ne 5, 3) := by decide +kernel
theorem dX9_cut_29 : decode cX9_cut 29 = .ok (.iconst 0, 1) := by decide +kernel
theorem dX9_cut_30 : decode cX9_cut 30 = .ok (.ireturn, 1) := by decide +kernel
theorem dX9_cut_31 : decode cX9_cut 31 = .ok (.aload_n 0, 1) := by decide +kernel
theorem dX9_cut_32 : decode cX9_cut 32 = .ok (.lload_n 1, 1) := by decide +kernel
theorem dX9_cut_33 : decode cX9_cut 33 = .ok (.invokevirtual 109, 3) := by decide +kernel
theorem dX9_cut_36 : decode cX9_cut 36 = .ok (.iconst 1, 1) := by decide +kernel
theorem dX9_cut_37 : decode cX9_cut 37 = .ok (.istore 4, 2) := by decide +kernel
theorem dX9_cut_39 : decode cX9_cut 39 = .ok (.iload 4, 2) := by decide +kernel
theorem dX9_cut_41 : decode cX9_cut 41 = .ok (.bipush 26, 2) := by decide +kernel
theorem dX9_cut_43 : decode cX9_cut 43 = .ok (.if_icmp .gt 38, 3) := by decide +kernel
theorem dX9_cut_46 : decode cX9_cut 46 = .ok (.aload_n 0, 1) := by decide +kernel
theorem dX9_cut_47 : decode cX9_cut 47 = .ok (.getfield 13, 3) := by decide +kernel
theorem dX9_cut_50 : decode cX9_cut 50 = .ok (.iload 4, 2) := by decide +kernel
theorem dX9_cut_52 : decode cX9_cut 52 = .ok (.iaload, 1) := by decide +kernel
theorem dX9_cut_53 : decode cX9_cut 53 = .ok (.iload_n 3, 1) := by decide +kernel
theorem dX9_cut_54 : decode cX9_cut 54 = .ok (.aload_n 0, 1) := by decide +kernel
theorem dX9_cut_55 : decode cX9_cut 55 = .ok (.getfield 39, 3) := by decide +kernel
theorem dX9_cut_58 : decode cX9_cut 58 = .ok (.iload 4, 2) := by decide +kernel
theorem dX9_cut_60 : decode cX9_cut 60 = .ok (.iaload, 1) := by decide +kernel
theorem dX9_cut_61 : decode cX9_cut 61 = .ok (.imul, 1) := by decide +kernel
theorem dX9_cut_62 : decode cX9_cut 62 = .ok (.iadd, 1) := by decide +kernel
theorem dX9_cut_63 : decode cX9_cut 63 = .ok (.sipush 999, 3) := by decide +kernel
theorem dX9_cut_66 : decode cX9_cut 66 = .ok (.if_icmp .le 9, 3) := by decide +kernel
theorem dX9_cut_69 : decode cX9_cut 69 = .ok (.aload_n 0, 1) := by decide +kernel
theorem dX9_cut_70 : decode cX9_cut 70 = .ok (.iconst 2, 1) := by decide +kernel
theorem dX9_cut_71 : decode cX9_cut 71 = .ok (.invokevirtual 90, 3) := by decide +kernel
theorem dX9_cut_74 : decode cX9_cut 74 = .ok (.ireturn, 1) := by decide +kernel
theorem dX9_cut_75 : decode cX9_cut 75 = .ok (.iinc 4 1, 3) := by decide +kernel
theorem dX9_cut_78 : decode cX9_cut 78 = .ok (.goto (-39), 3) := by decide +kernel
theorem dX9_cut_81 : decode cX9_cut 81 = .ok (.iconst 1, 1) := by decide +kernel
theorem dX9_cut_82 : decode cX9_cut 82 = .ok (.istore 4, 2) := by decide +kernel
theorem dX9_cut_84 : decode cX9_cut 84 = .ok (.iload 4, 2) := by decide +kernel
theorem dX9_cut_86 : decode cX9_cut 86 = .ok (.bipush 26, 2) := by decide +kernel
theorem dX9_cut_88 : decode cX9_cut 88 = .ok (.if_icmp .gt 47, 3) := by decide +kernel
theorem dX9_cut_91 : decode cX9_cut 91 = .ok (.aload_n 0, 1) := by decide +kernel
theorem dX9_cut_92 : decode cX9_cut 92 = .ok (.getfield 13, 3) := by decide +kernel
theorem dX9_cut_95 : decode cX9_cut 95 = .ok (.iload 4, 2) := by decide +kernel
theorem dX9_cut_97 : decode cX9_cut 97 = .ok (.dup2, 1) := by decide +kernel
theorem dX9_cut_98 : decode cX9_cut 98 = .ok (.iaload, 1) := by decide +kernel
theorem dX9_cut_99 : decode cX9_cut 99 = .ok (.iload_n 3, 1) := by decide +kernel
theorem dX9_cut_100 : decode cX9_cut 100 = .ok (.aload_n 0, 1) := by decide +kernel
theorem dX9_cut_101 : decode cX9_cut 101 = .ok (.getfield 39, 3) := by decide +kernel
theorem dX9_cut_104 : decode cX9_cut 104 = .ok (.iload 4, 2) := by decide +kernel
theorem dX9_cut_106 : decode cX9_cut 106 = .ok (.iaload, 1) := by decide +kernel
theorem dX9_cut_107 : decode cX9_cut 107 = .ok (.imul, 1) := by decide +kernel
theorem dX9_cut_108 : decode cX9_cut 108 = .ok (.iadd, 1) := by decide +kernel
theorem dX9_cut_109 : decode cX9_cut 109 = .ok (.iastore, 1) := by decide +kernel
theorem dX9_cut_110 : decode cX9_cut 110 = .ok (.aload_n 0, 1) := by decide +kernel
theorem dX9_cut_111 : decode cX9_cut 111 = .ok (.getfield 20, 3) := by decide +kernel
theorem dX9_cut_114 : decode cX9_cut 114 = .ok (.iload 4, 2) := by decide +kernel
theorem dX9_cut_116 : decode cX9_cut 116 = .ok (.dup2, 1) := by decide +kernel
theorem dX9_cut_117 : decode cX9_cut 117 = .ok (.iaload, 1) := by decide +kernel
theorem dX9_cut_118 : decode cX9_cut 118 = .ok (.iload_n 3, 1) := by decide +kernel
theorem dX9_cut_119 : decode cX9_cut 119 = .ok (.aload_n 0, 1) := by decide +kernel
theorem dX9_cut_120 : decode cX9_cut 120 = .ok (.getfield 39, 3) := by decide +kernel
theorem dX9_cut_123 : decode cX9_cut 123 = .ok (.iload 4, 2) := by decide +kernel
theorem dX9_cut_125 : decode cX9_cut 125 = .ok (.iaload, 1) := by decide +kernel
theorem dX9_cut_126 : decode cX9_cut 126 = .ok (.imul, 1) := by decide +kernel
theorem dX9_cut_127 : decode cX9_cut 127 = .ok (.iadd, 1) := by decide +kernel
theorem dX9_cut_128 : decode cX9_cut 128 = .ok (.iastore, 1) := by decide +kernel
theorem dX9_cut_129 : decode cX9_cut 129 = .ok (.iinc 4 1, 3) := by decide +kernel
theorem dX9_cut_132 : decode cX9_cut 132 = .ok (.goto (-48), 3) := by decide +kernel
theorem dX9_cut_135 : decode cX9_cut 135 = .ok (.aload_n 0, 1) := by decide +kernel
theorem dX9_cut_136 : decode cX9_cut 136 = .ok (.invokevirtual 129, 3) := by decide +kernel
theorem dX9_cut_139 : decode cX9_cut 139 = .ok (.ireturn, 1) := by decide +kernel
set_option maxRecDepth 20000 in
theorem ggX9_ofLetter_X9_isWithin : GoodIn wsX9_ofLetter wsX9_isWithin := goodIn_r _ [4] (by decide +kernel) (by decide +kernel)
set_option maxRecDepth 20000 in
theorem gX9_ofLetter_X9_isWithin : GoodIn wsX9_ofLetter (va_wsS RX9 65 yX9_isWithin wsX9_isWithin) := goodIn_app (goodIn_of _ (by decide +kernel)) ggX9_ofLetter_X9_isWithin
set_option maxRecDepth 20000 in
theorem ggX9_ofLetter_X9_isGood : GoodIn wsX9_ofLetter wsX9_isGood := goodIn_r _ [8, 9, 10, 11, 12, 13, 14, 15, 16, 17, 18, 19, 20, 21, 22, 23, 24, 25, 26, 27, 28] (by decide +kernel) (by decide +kernel)
set_option maxRecDepth 20000 in
theorem gX9_ofLetter_X9_isGood : GoodIn wsX9_ofLetter (wsV RX9 83 RX9 yX9_isGood wsX9_isGood) := goodIn_app (goodIn_of _ (by decide +kernel)) ggX9_ofLetter_X9_isGood
theorem dX9_ofLetter_0 : decode cX9_ofLetter 0 = .ok (.aload_n 0, 1) := by decide +kernel
theorem dX9_ofLetter_1 : decode cX9_ofLetter 1 = .ok (.iload_n 2, 1) := by decide +kernel
theorem dX9_ofLetter_2 : decode cX9_ofLetter 2 = .ok (.iconst 1, 1) := by decide +kernel
theorem dX9_ofLetter_3 : decode cX9_ofLetter 3 = .ok (.bipush 26, 2) := by decide +kernel
theorem dX9_ofLetter_5 : decode cX9_ofLetter 5 = .ok (.invokestatic 65, 3) := by decide +kernel
theorem dX9_ofLetter_8 : decode cX9_ofLetter 8 = .ok (.invokevirtual 83, 3) := by decide +kernel
theorem dX9_ofLetter_11 : decode cX9_ofLetter 11 = .ok (.ifCond .eq 9, 3) := by decide +kernel
theorem dX9_ofLetter_14 : decode cX9_ofLetter 14 = .ok (.aload_n 1, 1) := by decide +kernel
theorem dX9_ofLetter_15 : decode cX9_ofLetter 15 = .ok (.iload_n 2, 1) := by decide +kernel
theorem dX9_ofLetter_16 : decode cX9_ofLetter 16 = .ok (.iaload, 1) := by decide +kernel
theorem dX9_ofLetter_17 : decode cX9_ofLetter 17 = .ok (.goto 4, 3) := by decide +kernel
theorem dX9_ofLetter_20 : decode cX9_ofLetter 20 = .ok (.iconst 0, 1) := by decide +kernel
theorem dX9_ofLetter_21 : decode cX9_ofLetter 21 = .ok (.ireturn, 1) := by decide +kernel
set_option maxRecDepth 20000 in
theorem ggX9_stockOf_X9_ofLetter : GoodIn wsX9_stockOf wsX9_ofLetter := goodIn_r _ [6, 7, 8, 5, 9, 10, 11, 12, 13, 14, 15, 16, 17, 18, 19, 20, 21, 22, 23, 24, 25, 26, 27, 28, 29, 30, 31, 32, 33] (by decide +kernel) (by decide +kernel)
set_option maxRecDepth 20000 in
theorem gX9_stockOf_X9_ofLetter : GoodIn wsX9_stockOf (wsV RX9 133 RX9 yX9_ofLetter wsX9_ofLetter) := goodIn_app (goodIn_of _ (by decide +kernel)) ggX9_stockOf_X9_ofLetter
theorem dX9_stockOf_0 : decode cX9_stockOf 0 = .ok (.aload_n 0, 1) := by decide +kernel
theorem dX9_stockOf_1 : decode cX9_stockOf 1 = .ok (.aload_n 0, 1) := by decide +kernel
theorem dX9_stockOf_2 : decode cX9_stockOf 2 = .ok (.getfield 13, 3) := by decide +kernel
theorem dX9_stockOf_5 : decode cX9_stockOf 5 = .ok (.iload_n 1, 1) := by decide +kernel
theorem dX9_stockOf_6 : decode cX9_stockOf 6 = .ok (.invokevirtual 133, 3) := by decide +kernel
theorem dX9_stockOf_9 : decode cX9_stockOf 9 = .ok (.ireturn, 1) := by decide +kernel
set_option maxRecDepth 20000 in
theorem ggX9_totalStock_X9_total : GoodIn wsX9_totalStock wsX9_total := goodIn_r _ [6, 7, 8, 9, 10, 11, 12, 13, 14, 15, 16, 17, 18, 19, 20, 21, 22, 23, 24, 25, 26] (by decide +kernel) (by decide +kernel)
set_option maxRecDepth 20000 in
theorem gX9_totalStock_X9_total : GoodIn wsX9_totalStock (wsV RX9 129 RX9 yX9_total wsX9_total) := goodIn_app (goodIn_of _ (by decide +kernel)) ggX9_totalStock_X9_total
theorem dX9_totalStock_0 : decode cX9_totalStock 0 = .ok (.aload_n 0, 1) := by decide +kernel
theorem dX9_totalStock_1 : decode cX9_totalStock 1 = .ok (.iconst 0, 1) := by decide +kernel
theorem dX9_totalStock_2 : decode cX9_totalStock 2 = .ok (.putfield 55, 3) := by decide +kernel
theorem dX9_totalStock_5 : decode cX9_totalStock 5 = .ok (.aload_n 0, 1) := by decide +kernel
theorem dX9_totalStock_6 : decode cX9_totalStock 6 = .ok (.invokevirtual 129, 3) := by decide +kernel
theorem dX9_totalStock_9 : decode cX9_totalStock 9 = .ok (.ireturn, 1) := by decide +kernel
set_option maxRecDepth 20000 in
theorem ggX9_setBasePrice_X9_isWithin : GoodIn wsX9_setBasePrice wsX9_isWithin := goodIn_r _ [5] (by decide +kernel) (by decide +kernel)
set_option maxRecDepth 20000 in
theorem gX9_setBasePrice_X9_isWithin : GoodIn wsX9_setBasePrice (va_wsS RX9 65 yX9_isWithin wsX9_isWithin) := goodIn_app (goodIn_of _ (by decide +kernel)) ggX9_setBasePrice_X9_isWithin
set_option maxRecDepth 20000 in
theorem ggX9_setBasePrice_X9_isGood : GoodIn wsX9_setBasePrice wsX9_isGood := goodIn_r _ [9, 10, 11, 12, 13, 14, 15, 16, 17, 18, 19, 20, 21, 22, 23, 24, 25, 26, 27, 28, 29] (by decide +kernel) (by decide +kernel)
set_option maxRecDepth 20000 in
theorem gX9_setBasePrice_X9_isGood : GoodIn wsX9_setBasePrice (wsV RX9 83 RX9 yX9_isGood wsX9_isGood) := goodIn_app (goodIn_of _ (by decide +kernel)) ggX9_setBasePrice_X9_isGood
theorem dX9_setBasePrice_0 : decode cX9_setBasePrice 0 = .ok (.aload_n 0, 1) := by decide +kernel
theorem dX9_setBasePrice_1 : decode cX9_setBasePrice 1 = .ok (.iload_n 1, 1) := by decide +kernel
theorem dX9_setBasePrice_2 : decode cX9_setBasePrice 2 = .ok (.iconst 1, 1) := by decide +kernel
theorem dX9_setBasePrice_3 : decode cX9_setBasePrice 3 = .ok (.bipush 26, 2) := by decide +kernel
theorem dX9_setBasePrice_5 : decode cX9_setBasePrice 5 = .ok (.invokestatic 65, 3) := by decide +kernel
theorem dX9_setBasePrice_8 : decode cX9_setBasePrice 8 = .ok (.ifCond .eq 18, 3) := by decide +kernel
theorem dX9_setBasePrice_11 : decode cX9_setBasePrice 11 = .ok (.iload_n 2, 1) := by decide +kernel
theorem dX9_setBasePrice_12 : decode cX9_setBasePrice 12 = .ok (.iconst 1, 1) := by decide +kernel
theorem dX9_setBasePrice_13 : decode cX9_setBasePrice 13 = .ok (.sipush 999, 3) := by decide +kernel
theorem dX9_setBasePrice_16 : decode cX9_setBasePrice 16 = .ok (.invokestatic 65, 3) := by decide +kernel
theorem dX9_setBasePrice_19 : decode cX9_setBasePrice 19 = .ok (.ifCond .eq 7, 3) := by decide +kernel
theorem dX9_setBasePrice_22 : decode cX9_setBasePrice 22 = .ok (.iconst 1, 1) := by decide +kernel
theorem dX9_setBasePrice_23 : decode cX9_setBasePrice 23 = .ok (.goto 4, 3) := by decide +kernel
theorem dX9_setBasePrice_26 : decode cX9_setBasePrice 26 = .ok (.iconst 0, 1) := by decide +kernel
theorem dX9_setBasePrice_27 : decode cX9_setBasePrice 27 = .ok (.invokevirtual 83, 3) := by decide +kernel
theorem dX9_setBasePrice_30 : decode cX9_setBasePrice 30 = .ok (.ifCond .ne 5, 3) := by decide +kernel
theorem dX9_setBasePrice_33 : decode cX9_setBasePrice 33 = .ok (.iconst 0, 1) := by decide +kernel
theorem dX9_setBasePrice_34 : decode cX9_setBasePrice 34 = .ok (.ireturn, 1) := by decide +kernel
theorem dX9_setBasePrice_35 : decode cX9_setBasePrice 35 = .ok (.aload_n 0, 1) := by decide +kernel
theorem dX9_setBasePrice_36 : decode cX9_setBasePrice 36 = .ok (.getfield 17, 3) := by decide +kernel
theorem dX9_setBasePrice_39 : decode cX9_setBasePrice 39 = .ok (.iload_n 1, 1) := by decide +kernel
theorem dX9_setBasePrice_40 : decode cX9_setBasePrice 40 = .ok (.iaload, 1) := by decide +kernel
theorem dX9_setBasePrice_41 : decode cX9_setBasePrice 41 = .ok (.istore_n 3, 1) := by decide +kernel
theorem dX9_setBasePrice_42 : decode cX9_setBasePrice 42 = .ok (.aload_n 0, 1) := by decide +kernel
theorem dX9_setBasePrice_43 : decode cX9_setBasePrice 43 = .ok (.getfield 17, 3) := by decide +kernel
theorem dX9_setBasePrice_46 : decode cX9_setBasePrice 46 = .ok (.iload_n 1, 1) := by decide +kernel
theorem dX9_setBasePrice_47 : decode cX9_setBasePrice 47 = .ok (.iload_n 2, 1) := by decide +kernel
theorem dX9_setBasePrice_48 : decode cX9_setBasePrice 48 = .ok (.iastore, 1) := by decide +kernel
theorem dX9_setBasePrice_49 : decode cX9_setBasePrice 49 = .ok (.iload_n 3, 1) := by decide +kernel
theorem dX9_setBasePrice_50 : decode cX9_setBasePrice 50 = .ok (.ireturn, 1) := by decide +kernel
set_option maxRecDepth 20000 in
theorem ggX9_basePriceOf_X9_ofLetter : GoodIn wsX9_basePriceOf wsX9_ofLetter := goodIn_r _ [6, 7, 8, 5, 9, 10, 11, 12, 13, 14, 15, 16, 17, 18, 19, 20, 21, 22, 23, 24, 25, 26, 27, 28, 29, 30, 31, 32, 33] (by decide +kernel) (by decide +kernel)
set_option maxRecDepth 20000 in
theorem gX9_basePriceOf_X9_ofLetter : GoodIn wsX9_basePriceOf (wsV RX9 133 RX9 yX9_ofLetter wsX9_ofLetter) := goodIn_app (goodIn_of _ (by decide +kernel)) ggX9_basePriceOf_X9_ofLetter
theorem dX9_basePriceOf_0 : decode cX9_basePriceOf 0 = .ok (.aload_n 0, 1) := by decide +kernel
theorem dX9_basePriceOf_1 : decode cX9_basePriceOf 1 = .ok (.aload_n 0, 1) := by decide +kernel
theorem dX9_basePriceOf_2 : decode cX9_basePriceOf 2 = .ok (.getfield 17, 3) := by decide +kernel
theorem dX9_basePriceOf_5 : decode cX9_basePriceOf 5 = .ok (.iload_n 1, 1) := by decide +kernel
theorem dX9_basePriceOf_6 : decode cX9_basePriceOf 6 = .ok (.invokevirtual 133, 3) := by decide +kernel
theorem dX9_basePriceOf_9 : decode cX9_basePriceOf 9 = .ok (.ireturn, 1) := by decide +kernel
theorem dX9_price_0 : decode cX9_price 0 = .ok (.iconst 0, 1) := by decide +kernel
theorem dX9_price_1 : decode cX9_price 1 = .ok (.bipush 10, 2) := by decide +kernel
theorem dX9_price_3 : decode cX9_price 3 = .ok (.iload_n 2, 1) := by decide +kernel
theorem dX9_price_4 : decode cX9_price 4 = .ok (.isub, 1) := by decide +kernel
theorem dX9_price_5 : decode cX9_price 5 = .ok (.invokestatic 123, 3) := by decide +kernel
theorem dX9_price_8 : decode cX9_price 8 = .ok (.istore_n 3, 1) := by decide +kernel
theorem dX9_price_9 : decode cX9_price 9 = .ok (.aload_n 0, 1) := by decide +kernel
theorem dX9_price_10 : decode cX9_price 10 = .ok (.getfield 17, 3) := by decide +kernel
theorem dX9_price_13 : decode cX9_price 13 = .ok (.iload_n 1, 1) := by decide +kernel
theorem dX9_price_14 : decode cX9_price 14 = .ok (.iaload, 1) := by decide +kernel
theorem dX9_price_15 : decode cX9_price 15 = .ok (.aload_n 0, 1) := by decide +kernel
theorem dX9_price_16 : decode cX9_price 16 = .ok (.getfield 17, 3) := by decide +kernel
theorem dX9_price_19 : decode cX9_price 19 = .ok (.iload_n 1, 1) := by decide +kernel
theorem dX9_price_20 : decode cX9_price 20 = .ok (.iaload, 1) := by decide +kernel
theorem dX9_price_21 : decode cX9_price 21 = .ok (.iload_n 3, 1) := by decide +kernel
theorem dX9_price_22 : decode cX9_price 22 = .ok (.imul, 1) := by decide +kernel
theorem dX9_price_23 : decode cX9_price 23 = .ok (.bipush 10, 2) := by decide +kernel
theorem dX9_price_25 : decode cX9_price 25 = .ok (.idiv, 1) := by decide +kernel
theorem dX9_price_26 : decode cX9_price 26 = .ok (.iadd, 1) := by decide +kernel
theorem dX9_price_27 : decode cX9_price 27 = .ok (.ireturn, 1) := by decide +kernel
set_option maxRecDepth 20000 in
theorem ggX9_presentPriceOf_X9_isWithin : GoodIn wsX9_presentPriceOf wsX9_isWithin := goodIn_r _ [5] (by decide +kernel) (by decide +kernel)
set_option maxRecDepth 20000 in
theorem gX9_presentPriceOf_X9_isWithin : GoodIn wsX9_presentPriceOf (va_wsS RX9 65 yX9_isWithin wsX9_isWithin) := goodIn_app (goodIn_of _ (by decide +kernel)) ggX9_presentPriceOf_X9_isWithin
set_option maxRecDepth 20000 in
theorem ggX9_presentPriceOf_X9_isGood : GoodIn wsX9_presentPriceOf wsX9_isGood := goodIn_r _ [9, 10, 20, 21, 22, 23, 24, 25, 26, 27, 28, 29, 30, 31, 32, 33, 34, 35, 36, 37, 38] (by decide +kernel) (by decide +kernel)
set_option maxRecDepth 20000 in
theorem gX9_presentPriceOf_X9_isGood : GoodIn wsX9_presentPriceOf (wsV RX9 83 RX9 yX9_isGood wsX9_isGood) := goodIn_app (goodIn_of _ (by decide +kernel)) ggX9_presentPriceOf_X9_isGood
set_option maxRecDepth 20000 in
theorem ggX9_presentPriceOf_X9_price : GoodIn wsX9_presentPriceOf wsX9_price := goodIn_r _ [14, 15, 16, 17, 18, 19, 20, 21, 22, 23, 24, 25, 26, 27, 28, 29, 30, 31, 32, 33, 34, 35, 36, 37, 38] (by decide +kernel) (by decide +kernel)
set_option maxRecDepth 20000 in
theorem gX9_presentPriceOf_X9_price : GoodIn wsX9_presentPriceOf (wsV RX9 137 RX9 yX9_price wsX9_price) := goodIn_app (goodIn_of _ (by decide +kernel)) ggX9_presentPriceOf_X9_price
theorem dX9_presentPriceOf_0 : decode cX9_presentPriceOf 0 = .ok (.aload_n 0, 1) := by decide +kernel
theorem dX9_presentPriceOf_1 : decode cX9_presentPriceOf 1 = .ok (.iload_n 1, 1) := by decide +kernel
theorem dX9_presentPriceOf_2 : decode cX9_presentPriceOf 2 = .ok (.iconst 1, 1) := by decide +kernel
theorem dX9_presentPriceOf_3 : decode cX9_presentPriceOf 3 = .ok (.bipush 26, 2) := by decide +kernel
theorem dX9_presentPriceOf_5 : decode cX9_presentPriceOf 5 = .ok (.invokestatic 65, 3) := by decide +kernel
theorem dX9_presentPriceOf_8 : decode cX9_presentPriceOf 8 = .ok (.invokevirtual 83, 3) := by decide +kernel
theorem dX9_presentPriceOf_11 : decode cX9_presentPriceOf 11 = .ok (.ifCond .eq 17, 3) := by decide +kernel
theorem dX9_presentPriceOf_14 : decode cX9_presentPriceOf 14 = .ok (.aload_n 0, 1) := by decide +kernel
theorem dX9_presentPriceOf_15 : decode cX9_presentPriceOf 15 = .ok (.iload_n 1, 1) := by decide +kernel
theorem dX9_presentPriceOf_16 : decode cX9_presentPriceOf 16 = .ok (.aload_n 0, 1) := by decide +kernel
theorem dX9_presentPriceOf_17 : decode cX9_presentPriceOf 17 = .ok (.getfield 13, 3) := by decide +kernel
theorem dX9_presentPriceOf_20 : decode cX9_presentPriceOf 20 = .ok (.iload_n 1, 1) := by decide +kernel
theorem dX9_presentPriceOf_21 : decode cX9_presentPriceOf 21 = .ok (.iaload, 1) := by decide +kernel
theorem dX9_presentPriceOf_22 : decode cX9_presentPriceOf 22 = .ok (.invokevirtual 137, 3) := by decide +kernel
theorem dX9_presentPriceOf_25 : decode cX9_presentPriceOf 25 = .ok (.goto 4, 3) := by decide +kernel
theorem dX9_presentPriceOf_28 : decode cX9_presentPriceOf 28 = .ok (.iconst 0, 1) := by decide +kernel
theorem dX9_presentPriceOf_29 : decode cX9_presentPriceOf 29 = .ok (.ireturn, 1) := by decide +kernel
set_option maxRecDepth 20000 in
theorem ggX9_weightOf_X9_isWord : GoodIn wsX9_weightOf wsX9_isWord := goodIn_r _ [5, 1, 6, 7, 4, 8, 9, 10, 11] (by decide +kernel) (by decide +kernel)
set_option maxRecDepth 20000 in
theorem gX9_weightOf_X9_isWord : GoodIn wsX9_weightOf (va_wsS RX9 79 yX9_isWord wsX9_isWord) := goodIn_app (goodIn_of _ (by decide +kernel)) ggX9_weightOf_X9_isWord
set_option maxRecDepth 20000 in
theorem ggX9_weightOf_X9_isGood : GoodIn wsX9_weightOf wsX9_isGood := goodIn_r _ [15, 16, 23, 24, 25, 26, 27, 28, 29, 30, 31, 32, 33, 34, 35, 36, 37, 38, 39, 40, 41] (by decide +kernel) (by decide +kernel)
set_option maxRecDepth 20000 in
theorem gX9_weightOf_X9_isGood : GoodIn wsX9_weightOf (wsV RX9 83 RX9 yX9_isGood wsX9_isGood) := goodIn_app (goodIn_of _ (by decide +kernel)) ggX9_weightOf_X9_isGood
set_option maxRecDepth 20000 in
theorem ggX9_weightOf_X9_weight : GoodIn wsX9_weightOf wsX9_weight := goodIn_r _ [19, 20, 21, 4, 22] (by decide +kernel) (by decide +kernel)
set_option maxRecDepth 20000 in
theorem gX9_weightOf_X9_weight : GoodIn wsX9_weightOf (va_wsS RX9 140 yX9_weight wsX9_weight) := goodIn_app (goodIn_of _ (by decide +kernel)) ggX9_weightOf_X9_weight
theorem dX9_weightOf_0 : decode cX9_weightOf 0 = .ok (.aload_n 0, 1) := by decide +kernel
theorem dX9_weightOf_1 : decode cX9_weightOf 1 = .ok (.lload_n 1, 1) := by decide +kernel
theorem dX9_weightOf_2 : decode cX9_weightOf 2 = .ok (.invokestatic 79, 3) := by decide +kernel
theorem dX9_weightOf_5 : decode cX9_weightOf 5 = .ok (.invokevirtual 83, 3) := by decide +kernel
theorem dX9_weightOf_8 : decode cX9_weightOf 8 = .ok (.ifCond .ne 5, 3) := by decide +kernel
theorem dX9_weightOf_11 : decode cX9_weightOf 11 = .ok (.iconst 0, 1) := by decide +kernel
theorem dX9_weightOf_12 : decode cX9_weightOf 12 = .ok (.ireturn, 1) := by decide +kernel
theorem dX9_weightOf_13 : decode cX9_weightOf 13 = .ok (.iconst 0, 1) := by decide +kernel
theorem dX9_weightOf_14 : decode cX9_weightOf 14 = .ok (.istore_n 3, 1) := by decide +kernel
theorem dX9_weightOf_15 : decode cX9_weightOf 15 = .ok (.lload_n 1, 1) := by decide +kernel
theorem dX9_weightOf_16 : decode cX9_weightOf 16 = .ok (.lstore 4, 2) := by decide +kernel
theorem dX9_weightOf_18 : decode cX9_weightOf 18 = .ok (.lload 4, 2) := by decide +kernel
theorem dX9_weightOf_20 : decode cX9_weightOf 20 = .ok (.lconst 0, 1) := by decide +kernel
theorem dX9_weightOf_21 : decode cX9_weightOf 21 = .ok (.lcmp, 1) := by decide +kernel
theorem dX9_weightOf_22 : decode cX9_weightOf 22 = .ok (.ifCond .le 25, 3) := by decide +kernel
theorem dX9_weightOf_25 : decode cX9_weightOf 25 = .ok (.iload_n 3, 1) := by decide +kernel
theorem dX9_weightOf_26 : decode cX9_weightOf 26 = .ok (.lload 4, 2) := by decide +kernel
theorem dX9_weightOf_28 : decode cX9_weightOf 28 = .ok (.ldc2_w 63, 3) := by decide +kernel
theorem dX9_weightOf_31 : decode cX9_weightOf 31 = .ok (.land, 1) := by decide +kernel
theorem dX9_weightOf_32 : decode cX9_weightOf 32 = .ok (.l2i, 1) := by decide +kernel
theorem dX9_weightOf_33 : decode cX9_weightOf 33 = .ok (.invokestatic 140, 3) := by decide +kernel
theorem dX9_weightOf_36 : decode cX9_weightOf 36 = .ok (.iadd, 1) := by decide +kernel
theorem dX9_weightOf_37 : decode cX9_weightOf 37 = .ok (.istore_n 3, 1) := by decide +kernel
theorem dX9_weightOf_38 : decode cX9_weightOf 38 = .ok (.lload 4, 2) := by decide +kernel
theorem dX9_weightOf_40 : decode cX9_weightOf 40 = .ok (.iconst 5, 1) := by decide +kernel
theorem dX9_weightOf_41 : decode cX9_weightOf 41 = .ok (.lshr, 1) := by decide +kernel
theorem dX9_weightOf_42 : decode cX9_weightOf 42 = .ok (.lstore 4, 2) := by decide +kernel
theorem dX9_weightOf_44 : decode cX9_weightOf 44 = .ok (.goto (-26), 3) := by decide +kernel
theorem dX9_weightOf_47 : decode cX9_weightOf 47 = .ok (.iload_n 3, 1) := by decide +kernel
theorem dX9_weightOf_48 : decode cX9_weightOf 48 = .ok (.ireturn, 1) := by decide +kernel
theorem dX9_missing_0 : decode cX9_missing 0 = .ok (.iconst 1, 1) := by decide +kernel
theorem dX9_missing_1 : decode cX9_missing 1 = .ok (.istore_n 1, 1) := by decide +kernel
theorem dX9_missing_2 : decode cX9_missing 2 = .ok (.iload_n 1, 1) := by decide +kernel
theorem dX9_missing_3 : decode cX9_missing 3 = .ok (.bipush 26, 2) := by decide +kernel
theorem dX9_missing_5 : decode cX9_missing 5 = .ok (.if_icmp .gt 26, 3) := by decide +kernel
theorem dX9_missing_8 : decode cX9_missing 8 = .ok (.aload_n 0, 1) := by decide +kernel
theorem dX9_missing_9 : decode cX9_missing 9 = .ok (.getfield 39, 3) := by decide +kernel
theorem dX9_missing_12 : decode cX9_missing 12 = .ok (.iload_n 1, 1) := by decide +kernel
theorem dX9_missing_13 : decode cX9_missing 13 = .ok (.iaload, 1) := by decide +kernel
theorem dX9_missing_14 : decode cX9_missing 14 = .ok (.aload_n 0, 1) := by decide +kernel
theorem dX9_missing_15 : decode cX9_missing 15 = .ok (.getfield 13, 3) := by decide +kernel
theorem dX9_missing_18 : decode cX9_missing 18 = .ok (.iload_n 1, 1) := by decide +kernel
theorem dX9_missing_19 : decode cX9_missing 19 = .ok (.iaload, 1) := by decide +kernel
theorem dX9_missing_20 : decode cX9_missing 20 = .ok (.if_icmp .le 5, 3) := by decide +kernel
theorem dX9_missing_23 : decode cX9_missing 23 = .ok (.iload_n 1, 1) := by decide +kernel
theorem dX9_missing_24 : decode cX9_missing 24 = .ok (.ireturn, 1) := by decide +kernel
theorem dX9_missing_25 : decode cX9_missing 25 = .ok (.iinc 1 1, 3) := by decide +kernel
theorem dX9_missing_28 : decode cX9_missing 28 = .ok (.goto (-26), 3) := by decide +kernel
theorem dX9_missing_31 : decode cX9_missing 31 = .ok (.iconst (-1), 1) := by decide +kernel
theorem dX9_missing_32 : decode cX9_missing 32 = .ok (.ireturn, 1) := by decide +kernel
set_option maxRecDepth 20000 in
theorem ggX9_cost_X9_price : GoodIn wsX9_cost wsX9_price := goodIn_r _ [9, 10, 11, 12, 13, 14, 21, 22, 23, 24, 25, 26, 27, 28, 29, 30, 31, 32, 33, 34, 35, 36, 37, 38, 39] (by decide +kernel) (by decide +kernel)
set_option maxRecDepth 20000 in
theorem gX9_cost_X9_price : GoodIn wsX9_cost (wsV RX9 137 RX9 yX9_price wsX9_price) := goodIn_app (goodIn_of _ (by decide +kernel)) ggX9_cost_X9_price
set_option maxRecDepth 20000 in
theorem ggX9_cost_X9_weight : GoodIn wsX9_cost wsX9_weight := goodIn_r _ [17, 18, 19, 8, 20] (by decide +kernel) (by decide +kernel)
set_option maxRecDepth 20000 in
theorem gX9_cost_X9_weight : GoodIn wsX9_cost (va_wsS RX9 140 yX9_weight wsX9_weight) := goodIn_app (goodIn_of _ (by decide +kernel)) ggX9_cost_X9_weight
theorem dX9_cost_0 : decode cX9_cost 0 = .ok (.iconst 0, 1) := by decide +kernel
theorem dX9_cost_1 : decode cX9_cost 1 = .ok (.istore_n 1, 1) := by decide +kernel
theorem dX9_cost_2 : decode cX9_cost 2 = .ok (.iconst 1, 1) := by decide +kernel
theorem dX9_cost_3 : decode cX9_cost 3 = .ok (.istore_n 2, 1) := by decide +kernel
theorem dX9_cost_4 : decode cX9_cost 4 = .ok (.iload_n 2, 1) := by decide +kernel
theorem dX9_cost_5 : decode cX9_cost 5 = .ok (.bipush 26, 2) := by decide +kernel
theorem dX9_cost_7 : decode cX9_cost 7 = .ok (.if_icmp .gt 16, 3) := by decide +kernel
theorem dX9_cost_10 : decode cX9_cost 10 = .ok (.aload_n 0, 1) := by decide +kernel
theorem dX9_cost_11 : decode cX9_cost 11 = .ok (.getfield 42, 3) := by decide +kernel
theorem dX9_cost_14 : decode cX9_cost 14 = .ok (.iload_n 2, 1) := by decide +kernel
theorem dX9_cost_15 : decode cX9_cost 15 = .ok (.iconst 0, 1) := by decide +kernel
theorem dX9_cost_16 : decode cX9_cost 16 = .ok (.iastore, 1) := by decide +kernel
theorem dX9_cost_17 : decode cX9_cost 17 = .ok (.iinc 2 1, 3) := by decide +kernel
theorem dX9_cost_20 : decode cX9_cost 20 = .ok (.goto (-16), 3) := by decide +kernel
theorem dX9_cost_23 : decode cX9_cost 23 = .ok (.iconst 0, 1) := by decide +kernel
theorem dX9_cost_24 : decode cX9_cost 24 = .ok (.istore_n 2, 1) := by decide +kernel
theorem dX9_cost_25 : decode cX9_cost 25 = .ok (.iload_n 2, 1) := by decide +kernel
theorem dX9_cost_26 : decode cX9_cost 26 = .ok (.aload_n 0, 1) := by decide +kernel
theorem dX9_cost_27 : decode cX9_cost 27 = .ok (.getfield 69, 3) := by decide +kernel
theorem dX9_cost_30 : decode cX9_cost 30 = .ok (.if_icmp .ge 52, 3) := by decide +kernel
theorem dX9_cost_33 : decode cX9_cost 33 = .ok (.aload_n 0, 1) := by decide +kernel
theorem dX9_cost_34 : decode cX9_cost 34 = .ok (.getfield 36, 3) := by decide +kernel
theorem dX9_cost_37 : decode cX9_cost 37 = .ok (.iload_n 2, 1) := by decide +kernel
theorem dX9_cost_38 : decode cX9_cost 38 = .ok (.iaload, 1) := by decide +kernel
theorem dX9_cost_39 : decode cX9_cost 39 = .ok (.istore_n 3, 1) := by decide +kernel
theorem dX9_cost_40 : decode cX9_cost 40 = .ok (.iload_n 1, 1) := by decide +kernel
theorem dX9_cost_41 : decode cX9_cost 41 = .ok (.aload_n 0, 1) := by decide +kernel
theorem dX9_cost_42 : decode cX9_cost 42 = .ok (.iload_n 3, 1) := by decide +kernel
theorem dX9_cost_43 : decode cX9_cost 43 = .ok (.aload_n 0, 1) := by decide +kernel
theorem dX9_cost_44 : decode cX9_cost 44 = .ok (.getfield 13, 3) := by decide +kernel
theorem dX9_cost_47 : decode cX9_cost 47 = .ok (.iload_n 3, 1) := by decide +kernel
theorem dX9_cost_48 : decode cX9_cost 48 = .ok (.iaload, 1) := by decide +kernel
theorem dX9_cost_49 : decode cX9_cost 49 = .ok (.aload_n 0, 1) := by decide +kernel
theorem dX9_cost_50 : decode cX9_cost 50 = .ok (.getfield 42, 3) := by decide +kernel
theorem dX9_cost_53 : decode cX9_cost 53 = .ok (.iload_n 3, 1) := by decide +kernel
theorem dX9_cost_54 : decode cX9_cost 54 = .ok (.iaload, 1) := by decide +kernel
theorem dX9_cost_55 : decode cX9_cost 55 = .ok (.isub, 1) := by decide +kernel
theorem dX9_cost_56 : decode cX9_cost 56 = .ok (.invokevirtual 137, 3) := by decide +kernel
theorem dX9_cost_59 : decode cX9_cost 59 = .ok (.iload_n 3, 1) := by decide +kernel
theorem dX9_cost_60 : decode cX9_cost 60 = .ok (.invokestatic 140, 3) := by decide +kernel
theorem dX9_cost_63 : decode cX9_cost 63 = .ok (.imul, 1) := by decide +kernel
theorem dX9_cost_64 : decode cX9_cost 64 = .ok (.iadd, 1) := by decide +kernel
theorem dX9_cost_65 : decode cX9_cost 65 = .ok (.istore_n 1, 1) := by decide +kernel
theorem dX9_cost_66 : decode cX9_cost 66 = .ok (.aload_n 0, 1) := by decide +kernel
theorem dX9_cost_67 : decode cX9_cost 67 = .ok (.getfield 42, 3) := by decide +kernel
theorem dX9_cost_70 : decode cX9_cost 70 = .ok (.iload_n 3, 1) := by decide +kernel
theorem dX9_cost_71 : decode cX9_cost 71 = .ok (.dup2, 1) := by decide +kernel
theorem dX9_cost_72 : decode cX9_cost 72 = .ok (.iaload, 1) := by decide +kernel
theorem dX9_cost_73 : decode cX9_cost 73 = .ok (.iconst 1, 1) := by decide +kernel
theorem dX9_cost_74 : decode cX9_cost 74 = .ok (.iadd, 1) := by decide +kernel
theorem dX9_cost_75 : decode cX9_cost 75 = .ok (.iastore, 1) := by decide +kernel
theorem dX9_cost_76 : decode cX9_cost 76 = .ok (.iinc 2 1, 3) := by decide +kernel
theorem dX9_cost_79 : decode cX9_cost 79 = .ok (.goto (-54), 3) := by decide +kernel
theorem dX9_cost_82 : decode cX9_cost 82 = .ok (.iload_n 1, 1) := by decide +kernel
theorem dX9_cost_83 : decode cX9_cost 83 = .ok (.bipush 16, 2) := by decide +kernel
theorem dX9_cost_85 : decode cX9_cost 85 = .ok (.idiv, 1) := by decide +kernel
theorem dX9_cost_86 : decode cX9_cost 86 = .ok (.iload_n 1, 1) := by decide +kernel
theorem dX9_cost_87 : decode cX9_cost 87 = .ok (.bipush 16, 2) := by decide +kernel
theorem dX9_cost_89 : decode cX9_cost 89 = .ok (.irem, 1) := by decide +kernel
theorem dX9_cost_90 : decode cX9_cost 90 = .ok (.ifCond .ne 7, 3) := by decide +kernel
theorem dX9_cost_93 : decode cX9_cost 93 = .ok (.iconst 0, 1) := by decide +kernel
theorem dX9_cost_94 : decode cX9_cost 94 = .ok (.goto 4, 3) := by decide +kernel
theorem dX9_cost_97 : decode cX9_cost 97 = .ok (.iconst 1, 1) := by decide +kernel
theorem dX9_cost_98 : decode cX9_cost 98 = .ok (.iadd, 1) := by decide +kernel
theorem dX9_cost_99 : decode cX9_cost 99 = .ok (.ireturn, 1) := by decide +kernel
set_option maxRecDepth 20000 in
theorem ggX9_costOf_X9_isWord : GoodIn wsX9_costOf wsX9_isWord := goodIn_r _ [4, 5, 6, 7, 3, 8, 9, 10, 11] (by decide +kernel) (by decide +kernel)
set_option maxRecDepth 20000 in
theorem gX9_costOf_X9_isWord : GoodIn wsX9_costOf (va_wsS RX9 79 yX9_isWord wsX9_isWord) := goodIn_app (goodIn_of _ (by decide +kernel)) ggX9_costOf_X9_isWord
set_option maxRecDepth 20000 in
theorem ggX9_costOf_X9_isGood : GoodIn wsX9_costOf wsX9_isGood := goodIn_r _ [15, 16, 53, 54, 55, 56, 57, 58, 59, 60, 61, 62, 63, 64, 65, 66, 67, 68, 69, 70, 71] (by decide +kernel) (by decide +kernel)
set_option maxRecDepth 20000 in
theorem gX9_costOf_X9_isGood : GoodIn wsX9_costOf (wsV RX9 83 RX9 yX9_isGood wsX9_isGood) := goodIn_app (goodIn_of _ (by decide +kernel)) ggX9_costOf_X9_isGood
set_option maxRecDepth 20000 in
theorem ggX9_costOf_X9_spell : GoodIn wsX9_costOf wsX9_spell := goodIn_r _ [20, 21, 22, 23, 6, 7, 3, 8, 53, 54, 55, 56, 57, 58, 59, 60, 61, 62, 63, 64, 65, 66, 67, 68, 69, 70, 71] (by decide +kernel) (by decide +kernel)
set_option maxRecDepth 20000 in
theorem gX9_costOf_X9_spell : GoodIn wsX9_costOf (wsV RX9 109 RX9 yX9_spell wsX9_spell) := goodIn_app (goodIn_of _ (by decide +kernel)) ggX9_costOf_X9_spell
set_option maxRecDepth 20000 in
theorem ggX9_costOf_X9_missing : GoodIn wsX9_costOf wsX9_missing := goodIn_r _ [27, 22, 28, 53, 54, 55, 56, 57, 58, 59, 60, 61, 62, 63, 64, 65, 66, 67, 68, 69, 70, 71] (by decide +kernel) (by decide +kernel)
set_option maxRecDepth 20000 in
theorem gX9_costOf_X9_missing : GoodIn wsX9_costOf (wsV RX9 143 RX9 yX9_missing wsX9_missing) := goodIn_app (goodIn_of _ (by decide +kernel)) ggX9_costOf_X9_missing
set_option maxRecDepth 20000 in
theorem ggX9_costOf_X9_cost : GoodIn wsX9_costOf wsX9_cost := goodIn_r _ [32, 33, 21, 23, 28, 34, 35, 36, 3, 37, 38, 39, 40, 41, 42, 43, 44, 45, 46, 47, 48, 53, 54, 55, 56, 57, 58, 59, 60, 61, 62, 63, 64, 65, 66, 67, 68, 69, 70, 71] (by decide +kernel) (by decide +kernel)
set_option maxRecDepth 20000 in
theorem gX9_costOf_X9_cost : GoodIn wsX9_costOf (wsV RX9 146 RX9 yX9_cost wsX9_cost) := goodIn_app (goodIn_of _ (by decide +kernel)) ggX9_costOf_X9_cost
set_option maxRecDepth 20000 in
theorem ggX9_costOf_X9_fail : GoodIn wsX9_costOf wsX9_fail := goodIn_r _ [52, 16, 53, 54, 55, 56, 57, 58, 59, 60, 61, 62, 63, 64, 65, 66, 67, 68, 69, 70, 71] (by decide +kernel) (by decide +kernel)
set_option maxRecDepth 20000 in
theorem gX9_costOf_X9_fail : GoodIn wsX9_costOf (wsV RX9 90 RX9 yX9_fail wsX9_fail) := goodIn_app (goodIn_of _ (by decide +kernel)) ggX9_costOf_X9_fail
theorem dX9_costOf_0 : decode cX9_costOf 0 = .ok (.aload_n 0, 1) := by decide +kernel
theorem dX9_costOf_1 : decode cX9_costOf 1 = .ok (.lload_n 1, 1) := by decide +kernel
theorem dX9_costOf_2 : decode cX9_costOf 2 = .ok (.invokestatic 79, 3) := by decide +kernel
theorem dX9_costOf_5 : decode cX9_costOf 5 = .ok (.invokevirtual 83, 3) := by decide +kernel
theorem dX9_costOf_8 : decode cX9_costOf 8 = .ok (.ifCond .ne 5, 3) := by decide +kernel
theorem dX9_costOf_11 : decode cX9_costOf 11 = .ok (.iconst 0, 1) := by decide +kernel
theorem dX9_costOf_12 : decode cX9_costOf 12 = .ok (.ireturn, 1) := by decide +kernel
theorem dX9_costOf_13 : decode cX9_costOf 13 = .ok (.aload_n 0, 1) := by decide +kernel
theorem dX9_costOf_14 : decode cX9_costOf 14 = .ok (.lload_n 1, 1) := by decide +kernel
theorem dX9_costOf_15 : decode cX9_costOf 15 = .ok (.invokevirtual 109, 3) := by decide +kernel
theorem dX9_costOf_18 : decode cX9_costOf 18 = .ok (.aload_n 0, 1) := by decide +kernel
theorem dX9_costOf_19 : decode cX9_costOf 19 = .ok (.invokevirtual 143, 3) := by decide +kernel
theorem dX9_costOf_22 : decode cX9_costOf 22 = .ok (.iconst (-1), 1) := by decide +kernel
theorem dX9_costOf_23 : decode cX9_costOf 23 = .ok (.if_icmp .ne 10, 3) := by decide +kernel
theorem dX9_costOf_26 : decode cX9_costOf 26 = .ok (.aload_n 0, 1) := by decide +kernel
theorem dX9_costOf_27 : decode cX9_costOf 27 = .ok (.invokevirtual 146, 3) := by decide +kernel
theorem dX9_costOf_30 : decode cX9_costOf 30 = .ok (.goto 8, 3) := by decide +kernel
theorem dX9_costOf_33 : decode cX9_costOf 33 = .ok (.aload_n 0, 1) := by decide +kernel
theorem dX9_costOf_34 : decode cX9_costOf 34 = .ok (.iconst 2, 1) := by decide +kernel
theorem dX9_costOf_35 : decode cX9_costOf 35 = .ok (.invokevirtual 90, 3) := by decide +kernel
theorem dX9_costOf_38 : decode cX9_costOf 38 = .ok (.ireturn, 1) := by decide +kernel
set_option maxRecDepth 20000 in
theorem ggX9_missingLetter_X9_isWord : GoodIn wsX9_missingLetter wsX9_isWord := goodIn_r _ [4, 5, 6, 7, 3, 8, 9, 10, 11] (by decide +kernel) (by decide +kernel)
set_option maxRecDepth 20000 in
theorem gX9_missingLetter_X9_isWord : GoodIn wsX9_missingLetter (va_wsS RX9 79 yX9_isWord wsX9_isWord) := goodIn_app (goodIn_of _ (by decide +kernel)) ggX9_missingLetter_X9_isWord
set_option maxRecDepth 20000 in
theorem ggX9_missingLetter_X9_isGood : GoodIn wsX9_missingLetter wsX9_isGood := goodIn_r _ [15, 16, 29, 30, 31, 32, 33, 34, 35, 36, 37, 38, 39, 40, 41, 42, 43, 44, 45, 46, 47] (by decide +kernel) (by decide +kernel)
set_option maxRecDepth 20000 in
theorem gX9_missingLetter_X9_isGood : GoodIn wsX9_missingLetter (wsV RX9 83 RX9 yX9_isGood wsX9_isGood) := goodIn_app (goodIn_of _ (by decide +kernel)) ggX9_missingLetter_X9_isGood
set_option maxRecDepth 20000 in
theorem ggX9_missingLetter_X9_spell : GoodIn wsX9_missingLetter wsX9_spell := goodIn_r _ [20, 21, 22, 23, 6, 7, 3, 8, 29, 30, 31, 32, 33, 34, 35, 36, 37, 38, 39, 40, 41, 42, 43, 44, 45, 46, 47] (by decide +kernel) (by decide +kernel)
set_option maxRecDepth 20000 in
theorem gX9_missingLetter_X9_spell : GoodIn wsX9_missingLetter (wsV RX9 109 RX9 yX9_spell wsX9_spell) := goodIn_app (goodIn_of _ (by decide +kernel)) ggX9_missingLetter_X9_spell
set_option maxRecDepth 20000 in
theorem ggX9_missingLetter_X9_missing : GoodIn wsX9_missingLetter wsX9_missing := goodIn_r _ [27, 22, 28, 29, 30, 31, 32, 33, 34, 35, 36, 37, 38, 39, 40, 41, 42, 43, 44, 45, 46, 47] (by decide +kernel) (by decide +kernel)
set_option maxRecDepth 20000 in
theorem gX9_missingLetter_X9_missing : GoodIn wsX9_missingLetter (wsV RX9 143 RX9 yX9_missing wsX9_missing) := goodIn_app (goodIn_of _ (by decide +kernel)) ggX9_missingLetter_X9_missing
theorem dX9_missingLetter_0 : decode cX9_missingLetter 0 = .ok (.aload_n 0, 1) := by decide +kernel
theorem dX9_missingLetter_1 : decode cX9_missingLetter 1 = .ok (.lload_n 1, 1) := by decide +kernel
theorem dX9_missingLetter_2 : decode cX9_missingLetter 2 = .ok (.invokestatic 79, 3) := by decide +kernel
theorem dX9_missingLetter_5 : decode cX9_missingLetter 5 = .ok (.invokevirtual 83, 3) := by decide +kernel
theorem dX9_missingLetter_8 : decode cX9_missingLetter 8 = .ok (.ifCond .ne 5, 3) := by decide +kernel
theorem dX9_missingLetter_11 : decode cX9_missingLetter 11 = .ok (.iconst 0, 1) := by decide +kernel
theorem dX9_missingLetter_12 : decode cX9_missingLetter 12 = .ok (.ireturn, 1) := by decide +kernel
theorem dX9_missingLetter_13 : decode cX9_missingLetter 13 = .ok (.aload_n 0, 1) := by decide +kernel
theorem dX9_missingLetter_14 : decode cX9_missingLetter 14 = .ok (.lload_n 1, 1) := by decide +kernel
theorem dX9_missingLetter_15 : decode cX9_missingLetter 15 = .ok (.invokevirtual 109, 3) := by decide +kernel
theorem dX9_missingLetter_18 : decode cX9_missingLetter 18 = .ok (.aload_n 0, 1) := by decide +kernel
theorem dX9_missingLetter_19 : decode cX9_missingLetter 19 = .ok (.invokevirtual 143, 3) := by decide +kernel
theorem dX9_missingLetter_22 : decode cX9_missingLetter 22 = .ok (.ireturn, 1) := by decide +kernel
set_option maxRecDepth 20000 in
theorem ggX9_refusal_X9_spell : GoodIn wsX9_refusal wsX9_spell := goodIn_r _ [5, 6, 7, 8, 9, 10, 4, 11, 43, 44, 45, 46, 47, 48, 49, 50, 51, 52, 53, 54, 55, 56, 57, 58, 59, 60, 61] (by decide +kernel) (by decide +kernel)
set_option maxRecDepth 20000 in
theorem gX9_refusal_X9_spell : GoodIn wsX9_refusal (wsV RX9 109 RX9 yX9_spell wsX9_spell) := goodIn_app (goodIn_of _ (by decide +kernel)) ggX9_refusal_X9_spell
set_option maxRecDepth 20000 in
theorem ggX9_refusal_X9_placeOf : GoodIn wsX9_refusal wsX9_placeOf := goodIn_r _ [15, 16, 17, 43, 44, 45, 46, 47, 48, 49, 50, 51, 52, 53, 54, 55, 56, 57, 58, 59, 60, 61] (by decide +kernel) (by decide +kernel)
set_option maxRecDepth 20000 in
theorem gX9_refusal_X9_placeOf : GoodIn wsX9_refusal (wsV RX9 87 RX9 yX9_placeOf wsX9_placeOf) := goodIn_app (goodIn_of _ (by decide +kernel)) ggX9_refusal_X9_placeOf
set_option maxRecDepth 20000 in
theorem ggX9_refusal_X9_missing : GoodIn wsX9_refusal wsX9_missing := goodIn_r _ [21, 7, 22, 43, 44, 45, 46, 47, 48, 49, 50, 51, 52, 53, 54, 55, 56, 57, 58, 59, 60, 61] (by decide +kernel) (by decide +kernel)
set_option maxRecDepth 20000 in
theorem gX9_refusal_X9_missing : GoodIn wsX9_refusal (wsV RX9 143 RX9 yX9_missing wsX9_missing) := goodIn_app (goodIn_of _ (by decide +kernel)) ggX9_refusal_X9_missing
set_option maxRecDepth 20000 in
theorem ggX9_refusal_X9_cost : GoodIn wsX9_refusal wsX9_cost := goodIn_r _ [26, 27, 6, 8, 22, 28, 29, 30, 4, 31, 32, 33, 34, 35, 36, 37, 38, 39, 40, 41, 42, 43, 44, 45, 46, 47, 48, 49, 50, 51, 52, 53, 54, 55, 56, 57, 58, 59, 60, 61] (by decide +kernel) (by decide +kernel)
set_option maxRecDepth 20000 in
theorem gX9_refusal_X9_cost : GoodIn wsX9_refusal (wsV RX9 146 RX9 yX9_cost wsX9_cost) := goodIn_app (goodIn_of _ (by decide +kernel)) ggX9_refusal_X9_cost
theorem dX9_refusal_0 : decode cX9_refusal 0 = .ok (.aload_n 0, 1) := by decide +kernel
theorem dX9_refusal_1 : decode cX9_refusal 1 = .ok (.lload_n 1, 1) := by decide +kernel
theorem dX9_refusal_2 : decode cX9_refusal 2 = .ok (.invokevirtual 109, 3) := by decide +kernel
theorem dX9_refusal_5 : decode cX9_refusal 5 = .ok (.aload_n 0, 1) := by decide +kernel
theorem dX9_refusal_6 : decode cX9_refusal 6 = .ok (.lload_n 1, 1) := by decide +kernel
theorem dX9_refusal_7 : decode cX9_refusal 7 = .ok (.invokevirtual 87, 3) := by decide +kernel
theorem dX9_refusal_10 : decode cX9_refusal 10 = .ok (.iconst (-1), 1) := by decide +kernel
theorem dX9_refusal_11 : decode cX9_refusal 11 = .ok (.if_icmp .ne 5, 3) := by decide +kernel
theorem dX9_refusal_14 : decode cX9_refusal 14 = .ok (.iconst 1, 1) := by decide +kernel
theorem dX9_refusal_15 : decode cX9_refusal 15 = .ok (.ireturn, 1) := by decide +kernel
theorem dX9_refusal_16 : decode cX9_refusal 16 = .ok (.aload_n 0, 1) := by decide +kernel
theorem dX9_refusal_17 : decode cX9_refusal 17 = .ok (.invokevirtual 143, 3) := by decide +kernel
theorem dX9_refusal_20 : decode cX9_refusal 20 = .ok (.iconst (-1), 1) := by decide +kernel
theorem dX9_refusal_21 : decode cX9_refusal 21 = .ok (.if_icmp .eq 5, 3) := by decide +kernel
theorem dX9_refusal_24 : decode cX9_refusal 24 = .ok (.iconst 2, 1) := by decide +kernel
theorem dX9_refusal_25 : decode cX9_refusal 25 = .ok (.ireturn, 1) := by decide +kernel
theorem dX9_refusal_26 : decode cX9_refusal 26 = .ok (.aload_n 0, 1) := by decide +kernel
theorem dX9_refusal_27 : decode cX9_refusal 27 = .ok (.invokevirtual 146, 3) := by decide +kernel
theorem dX9_refusal_30 : decode cX9_refusal 30 = .ok (.iload_n 3, 1) := by decide +kernel
theorem dX9_refusal_31 : decode cX9_refusal 31 = .ok (.if_icmp .le 7, 3) := by decide +kernel
theorem dX9_refusal_34 : decode cX9_refusal 34 = .ok (.iconst 3, 1) := by decide +kernel
theorem dX9_refusal_35 : decode cX9_refusal 35 = .ok (.goto 4, 3) := by decide +kernel
theorem dX9_refusal_38 : decode cX9_refusal 38 = .ok (.iconst 0, 1) := by decide +kernel
theorem dX9_refusal_39 : decode cX9_refusal 39 = .ok (.ireturn, 1) := by decide +kernel
set_option maxRecDepth 20000 in
theorem ggX9_isBudget_X9_isWithin : GoodIn wsX9_isBudget wsX9_isWithin := goodIn_r _ [5] (by decide +kernel) (by decide +kernel)
set_option maxRecDepth 20000 in
theorem gX9_isBudget_X9_isWithin : GoodIn wsX9_isBudget (va_wsS RX9 65 yX9_isWithin wsX9_isWithin) := goodIn_app (goodIn_of _ (by decide +kernel)) ggX9_isBudget_X9_isWithin
theorem dX9_isBudget_0 : decode cX9_isBudget 0 = .ok (.iload_n 1, 1) := by decide +kernel
theorem dX9_isBudget_1 : decode cX9_isBudget 1 = .ok (.iconst 0, 1) := by decide +kernel
theorem dX9_isBudget_2 : decode cX9_isBudget 2 = .ok (.ldc 149, 2) := by decide +kernel
theorem dX9_isBudget_4 : decode cX9_isBudget 4 = .ok (.invokestatic 65, 3) := by decide +kernel
theorem dX9_isBudget_7 : decode cX9_isBudget 7 = .ok (.ireturn, 1) := by decide +kernel
set_option maxRecDepth 20000 in
theorem ggX9_refusalOf_X9_isWord : GoodIn wsX9_refusalOf wsX9_isWord := goodIn_r _ [4, 5, 6, 7, 3, 8, 9, 10, 11] (by decide +kernel) (by decide +kernel)
set_option maxRecDepth 20000 in
theorem gX9_refusalOf_X9_isWord : GoodIn wsX9_refusalOf (va_wsS RX9 79 yX9_isWord wsX9_isWord) := goodIn_app (goodIn_of _ (by decide +kernel)) ggX9_refusalOf_X9_isWord
set_option maxRecDepth 20000 in
theorem ggX9_refusalOf_X9_isBudget : GoodIn wsX9_refusalOf wsX9_isBudget := goodIn_r _ [15, 16, 9, 10, 3, 11] (by decide +kernel) (by decide +kernel)
set_option maxRecDepth 20000 in
theorem gX9_refusalOf_X9_isBudget : GoodIn wsX9_refusalOf (wsV RX9 150 RX9 yX9_isBudget wsX9_isBudget) := goodIn_app (goodIn_of _ (by decide +kernel)) ggX9_refusalOf_X9_isBudget
set_option maxRecDepth 20000 in
theorem ggX9_refusalOf_X9_isGood : GoodIn wsX9_refusalOf wsX9_isGood := goodIn_r _ [20, 21, 64, 65, 66, 67, 68, 69, 70, 71, 72, 73, 74, 75, 76, 77, 78, 79, 80, 81, 82] (by decide +kernel) (by decide +kernel)
set_option maxRecDepth 20000 in
theorem gX9_refusalOf_X9_isGood : GoodIn wsX9_refusalOf (wsV RX9 83 RX9 yX9_isGood wsX9_isGood) := goodIn_app (goodIn_of _ (by decide +kernel)) ggX9_refusalOf_X9_isGood
set_option maxRecDepth 20000 in
theorem ggX9_refusalOf_X9_refusal : GoodIn wsX9_refusalOf wsX9_refusal := goodIn_r _ [25, 26, 27, 28, 3, 29, 30, 31, 32, 6, 7, 8, 33, 34, 35, 36, 37, 38, 39, 40, 41, 42, 43, 44, 45, 46, 47, 48, 49, 50, 51, 52, 53, 54, 55, 56, 57, 58, 59, 60, 61, 62, 63, 64, 65, 66, 67, 68, 69, 70, 71, 72, 73, 74, 75, 76, 77, 78, 79, 80, 81, 82] (by decide +kernel) (by decide +kernel)
set_option maxRecDepth 20000 in
theorem gX9_refusalOf_X9_refusal : GoodIn wsX9_refusalOf (wsV RX9 153 RX9 yX9_refusal wsX9_refusal) := goodIn_app (goodIn_of _ (by decide +kernel)) ggX9_refusalOf_X9_refusal
theorem dX9_refusalOf_0 : decode cX9_refusalOf 0 = .ok (.aload_n 0, 1) := by decide +kernel
theorem dX9_refusalOf_1 : decode cX9_refusalOf 1 = .ok (.lload_n 1, 1) := by decide +kernel
theorem dX9_refusalOf_2 : decode cX9_refusalOf 2 = .ok (.invokestatic 79, 3) := by decide +kernel
theorem dX9_refusalOf_5 : decode cX9_refusalOf 5 = .ok (.ifCond .eq 15, 3) := by decide +kernel
theorem dX9_refusalOf_8 : decode cX9_refusalOf 8 = .ok (.aload_n 0, 1) := by decide +kernel
theorem dX9_refusalOf_9 : decode cX9_refusalOf 9 = .ok (.iload_n 3, 1) := by decide +kernel
theorem dX9_refusalOf_10 : decode cX9_refusalOf 10 = .ok (.invokevirtual 150, 3) := by decide +kernel
theorem dX9_refusalOf_13 : decode cX9_refusalOf 13 = .ok (.ifCond .eq 7, 3) := by decide +kernel
theorem dX9_refusalOf_16 : decode cX9_refusalOf 16 = .ok (.iconst 1, 1) := by decide +kernel
theorem dX9_refusalOf_17 : decode cX9_refusalOf 17 = .ok (.goto 4, 3) := by decide +kernel
theorem dX9_refusalOf_20 : decode cX9_refusalOf 20 = .ok (.iconst 0, 1) := by decide +kernel
theorem dX9_refusalOf_21 : decode cX9_refusalOf 21 = .ok (.invokevirtual 83, 3) := by decide +kernel
theorem dX9_refusalOf_24 : decode cX9_refusalOf 24 = .ok (.ifCond .eq 12, 3) := by decide +kernel
theorem dX9_refusalOf_27 : decode cX9_refusalOf 27 = .ok (.aload_n 0, 1) := by decide +kernel
theorem dX9_refusalOf_28 : decode cX9_refusalOf 28 = .ok (.lload_n 1, 1) := by decide +kernel
theorem dX9_refusalOf_29 : decode cX9_refusalOf 29 = .ok (.iload_n 3, 1) := by decide +kernel
theorem dX9_refusalOf_30 : decode cX9_refusalOf 30 = .ok (.invokevirtual 153, 3) := by decide +kernel
theorem dX9_refusalOf_33 : decode cX9_refusalOf 33 = .ok (.goto 4, 3) := by decide +kernel
theorem dX9_refusalOf_36 : decode cX9_refusalOf 36 = .ok (.iconst 0, 1) := by decide +kernel
theorem dX9_refusalOf_37 : decode cX9_refusalOf 37 = .ok (.ireturn, 1) := by decide +kernel
theorem dX9_write_0 : decode cX9_write 0 = .ok (.aload_n 0, 1) := by decide +kernel
theorem dX9_write_1 : decode cX9_write 1 = .ok (.getfield 156, 3) := by decide +kernel
theorem dX9_write_4 : decode cX9_write 4 = .ok (.aload_n 0, 1) := by decide +kernel
theorem dX9_write_5 : decode cX9_write 5 = .ok (.getfield 26, 3) := by decide +kernel
theorem dX9_write_8 : decode cX9_write 8 = .ok (.arraylength, 1) := by decide +kernel
theorem dX9_write_9 : decode cX9_write 9 = .ok (.if_icmp .ne 105, 3) := by decide +kernel
theorem dX9_write_12 : decode cX9_write 12 = .ok (.iconst 2, 1) := by decide +kernel
theorem dX9_write_13 : decode cX9_write 13 = .ok (.aload_n 0, 1) := by decide +kernel
theorem dX9_write_14 : decode cX9_write 14 = .ok (.getfield 156, 3) := by decide +kernel
theorem dX9_write_17 : decode cX9_write 17 = .ok (.imul, 1) := by decide +kernel
theorem dX9_write_18 : decode cX9_write 18 = .ok (.newarray .long, 2) := by decide +kernel
theorem dX9_write_20 : decode cX9_write 20 = .ok (.astore 4, 2) := by decide +kernel
theorem dX9_write_22 : decode cX9_write 22 = .ok (.iconst 2, 1) := by decide +kernel
theorem dX9_write_23 : decode cX9_write 23 = .ok (.aload_n 0, 1) := by decide +kernel
theorem dX9_write_24 : decode cX9_write 24 = .ok (.getfield 156, 3) := by decide +kernel
theorem dX9_write_27 : decode cX9_write 27 = .ok (.imul, 1) := by decide +kernel
theorem dX9_write_28 : decode cX9_write 28 = .ok (.newarray .int, 2) := by decide +kernel
theorem dX9_write_30 : decode cX9_write 30 = .ok (.astore 5, 2) := by decide +kernel
theorem dX9_write_32 : decode cX9_write 32 = .ok (.iconst 2, 1) := by decide +kernel
theorem dX9_write_33 : decode cX9_write 33 = .ok (.aload_n 0, 1) := by decide +kernel
theorem dX9_write_34 : decode cX9_write 34 = .ok (.getfield 156, 3) := by decide +kernel
theorem dX9_write_37 : decode cX9_write 37 = .ok (.imul, 1) := by decide +kernel
theorem dX9_write_38 : decode cX9_write 38 = .ok (.newarray .boolean, 2) := by decide +kernel
theorem dX9_write_40 : decode cX9_write 40 = .ok (.astore 6, 2) := by decide +kernel
theorem dX9_write_42 : decode cX9_write 42 = .ok (.iconst 0, 1) := by decide +kernel
theorem dX9_write_43 : decode cX9_write 43 = .ok (.istore 7, 2) := by decide +kernel
theorem dX9_write_45 : decode cX9_write 45 = .ok (.iload 7, 2) := by decide +kernel
theorem dX9_write_47 : decode cX9_write 47 = .ok (.aload_n 0, 1) := by decide +kernel
theorem dX9_write_48 : decode cX9_write 48 = .ok (.getfield 156, 3) := by decide +kernel
theorem dX9_write_51 : decode cX9_write 51 = .ok (.if_icmp .ge 45, 3) := by decide +kernel
theorem dX9_write_54 : decode cX9_write 54 = .ok (.aload 4, 2) := by decide +kernel
theorem dX9_write_56 : decode cX9_write 56 = .ok (.iload 7, 2) := by decide +kernel
theorem dX9_write_58 : decode cX9_write 58 = .ok (.aload_n 0, 1) := by decide +kernel
theorem dX9_write_59 : decode cX9_write 59 = .ok (.getfield 26, 3) := by decide +kernel
theorem dX9_write_62 : decode cX9_write 62 = .ok (.iload 7, 2) := by decide +kernel
theorem dX9_write_64 : decode cX9_write 64 = .ok (.laload, 1) := by decide +kernel
theorem dX9_write_65 : decode cX9_write 65 = .ok (.lastore, 1) := by decide +kernel
theorem dX9_write_66 : decode cX9_write 66 = .ok (.aload 5, 2) := by decide +kernel
theorem dX9_write_68 : decode cX9_write 68 = .ok (.iload 7, 2) := by decide +kernel
theorem dX9_write_70 : decode cX9_write 70 = .ok (.aload_n 0, 1) := by decide +kernel
theorem dX9_write_71 : decode cX9_write 71 = .ok (.getfield 29, 3) := by decide +kernel
theorem dX9_write_74 : decode cX9_write 74 = .ok (.iload 7, 2) := by decide +kernel
theorem dX9_write_76 : decode cX9_write 76 = .ok (.iaload, 1) := by decide +kernel
theorem dX9_write_77 : decode cX9_write 77 = .ok (.iastore, 1) := by decide +kernel
theorem dX9_write_78 : decode cX9_write 78 = .ok (.aload 6, 2) := by decide +kernel
theorem dX9_write_80 : decode cX9_write 80 = .ok (.iload 7, 2) := by decide +kernel
theorem dX9_write_82 : decode cX9_write 82 = .ok (.aload_n 0, 1) := by decide +kernel
theorem dX9_write_83 : decode cX9_write 83 = .ok (.getfield 32, 3) := by decide +kernel
theorem dX9_write_86 : decode cX9_write 86 = .ok (.iload 7, 2) := by decide +kernel
theorem dX9_write_88 : decode cX9_write 88 = .ok (.baload, 1) := by decide +kernel
theorem dX9_write_89 : decode cX9_write 89 = .ok (.bastore, 1) := by decide +kernel
theorem dX9_write_90 : decode cX9_write 90 = .ok (.iinc 7 1, 3) := by decide +kernel
theorem dX9_write_93 : decode cX9_write 93 = .ok (.goto (-48), 3) := by decide +kernel
theorem dX9_write_96 : decode cX9_write 96 = .ok (.aload_n 0, 1) := by decide +kernel
theorem dX9_write_97 : decode cX9_write 97 = .ok (.aload 4, 2) := by decide +kernel
theorem dX9_write_99 : decode cX9_write 99 = .ok (.putfield 26, 3) := by decide +kernel
theorem dX9_write_102 : decode cX9_write 102 = .ok (.aload_n 0, 1) := by decide +kernel
theorem dX9_write_103 : decode cX9_write 103 = .ok (.aload 5, 2) := by decide +kernel
theorem dX9_write_105 : decode cX9_write 105 = .ok (.putfield 29, 3) := by decide +kernel
theorem dX9_write_108 : decode cX9_write 108 = .ok (.aload_n 0, 1) := by decide +kernel
theorem dX9_write_109 : decode cX9_write 109 = .ok (.aload 6, 2) := by decide +kernel
theorem dX9_write_111 : decode cX9_write 111 = .ok (.putfield 32, 3) := by decide +kernel
theorem dX9_write_114 : decode cX9_write 114 = .ok (.aload_n 0, 1) := by decide +kernel
theorem dX9_write_115 : decode cX9_write 115 = .ok (.getfield 26, 3) := by decide +kernel
theorem dX9_write_118 : decode cX9_write 118 = .ok (.aload_n 0, 1) := by decide +kernel
theorem dX9_write_119 : decode cX9_write 119 = .ok (.getfield 156, 3) := by decide +kernel
theorem dX9_write_122 : decode cX9_write 122 = .ok (.lload_n 1, 1) := by decide +kernel
theorem dX9_write_123 : decode cX9_write 123 = .ok (.lastore, 1) := by decide +kernel
theorem dX9_write_124 : decode cX9_write 124 = .ok (.aload_n 0, 1) := by decide +kernel
theorem dX9_write_125 : decode cX9_write 125 = .ok (.getfield 29, 3) := by decide +kernel
theorem dX9_write_128 : decode cX9_write 128 = .ok (.aload_n 0, 1) := by decide +kernel
theorem dX9_write_129 : decode cX9_write 129 = .ok (.getfield 156, 3) := by decide +kernel
theorem dX9_write_132 : decode cX9_write 132 = .ok (.iload_n 3, 1) := by decide +kernel
theorem dX9_write_133 : decode cX9_write 133 = .ok (.iastore, 1) := by decide +kernel
theorem dX9_write_134 : decode cX9_write 134 = .ok (.aload_n 0, 1) := by decide +kernel
theorem dX9_write_135 : decode cX9_write 135 = .ok (.getfield 32, 3) := by decide +kernel
theorem dX9_write_138 : decode cX9_write 138 = .ok (.aload_n 0, 1) := by decide +kernel
theorem dX9_write_139 : decode cX9_write 139 = .ok (.getfield 156, 3) := by decide +kernel
theorem dX9_write_142 : decode cX9_write 142 = .ok (.iconst 0, 1) := by decide +kernel
theorem dX9_write_143 : decode cX9_write 143 = .ok (.bastore, 1) := by decide +kernel
theorem dX9_write_144 : decode cX9_write 144 = .ok (.aload_n 0, 1) := by decide +kernel
theorem dX9_write_145 : decode cX9_write 145 = .ok (.dup, 1) := by decide +kernel
theorem dX9_write_146 : decode cX9_write 146 = .ok (.getfield 156, 3) := by decide +kernel
theorem dX9_write_149 : decode cX9_write 149 = .ok (.iconst 1, 1) := by decide +kernel
theorem dX9_write_150 : decode cX9_write 150 = .ok (.iadd, 1) := by decide +kernel
theorem dX9_write_151 : decode cX9_write 151 = .ok (.putfield 156, 3) := by decide +kernel
theorem dX9_write_154 : decode cX9_write 154 = .ok (.aload_n 0, 1) := by decide +kernel
theorem dX9_write_155 : decode cX9_write 155 = .ok (.dup, 1) := by decide +kernel
theorem dX9_write_156 : decode cX9_write 156 = .ok (.getfield 159, 3) := by decide +kernel
theorem dX9_write_159 : decode cX9_write 159 = .ok (.iload_n 3, 1) := by decide +kernel
theorem dX9_write_160 : decode cX9_write 160 = .ok (.iadd, 1) := by decide +kernel
theorem dX9_write_161 : decode cX9_write 161 = .ok (.putfield 159, 3) := by decide +kernel
theorem dX9_write_164 : decode cX9_write 164 = .ok (.return_, 1) := by decide +kernel
set_option maxRecDepth 20000 in
theorem ggX9_sellNow_X9_spell : GoodIn wsX9_sellNow wsX9_spell := goodIn_r _ [9, 1, 10, 3, 11, 12, 8, 13, 46, 47, 48, 49, 50, 51, 52, 53, 54, 55, 56, 57, 58, 59, 60, 61, 62, 63, 64] (by decide +kernel) (by decide +kernel)
set_option maxRecDepth 20000 in
theorem gX9_sellNow_X9_spell : GoodIn wsX9_sellNow (wsV RX9 109 RX9 yX9_spell wsX9_spell) := goodIn_app (goodIn_of _ (by decide +kernel)) ggX9_sellNow_X9_spell
set_option maxRecDepth 20000 in
theorem ggX9_sellNow_X9_cost : GoodIn wsX9_sellNow wsX9_cost := goodIn_r _ [17, 18, 1, 3, 2, 19, 20, 21, 8, 22, 23, 24, 25, 26, 27, 28, 29, 30, 31, 32, 33, 46, 47, 48, 49, 50, 51, 52, 53, 54, 55, 56, 57, 58, 59, 60, 61, 62, 63, 64] (by decide +kernel) (by decide +kernel)
set_option maxRecDepth 20000 in
theorem gX9_sellNow_X9_cost : GoodIn wsX9_sellNow (wsV RX9 146 RX9 yX9_cost wsX9_cost) := goodIn_app (goodIn_of _ (by decide +kernel)) ggX9_sellNow_X9_cost
set_option maxRecDepth 20000 in
theorem ggX9_sellNow_X9_write : GoodIn wsX9_sellNow wsX9_write := goodIn_r _ [37, 38, 39, 40, 41, 42, 43, 44, 45, 46, 47, 48, 49, 50, 51, 52, 53, 54, 55, 56, 57, 58, 59, 60, 61, 62, 63, 64] (by decide +kernel) (by decide +kernel)
set_option maxRecDepth 20000 in
theorem gX9_sellNow_X9_write : GoodIn wsX9_sellNow (wsV RX9 162 RX9 yX9_write wsX9_write) := goodIn_app (goodIn_of _ (by decide +kernel)) ggX9_sellNow_X9_write
theorem dX9_sellNow_0 : decode cX9_sellNow 0 = .ok (.aload_n 0, 1) := by decide +kernel
theorem dX9_sellNow_1 : decode cX9_sellNow 1 = .ok (.lload_n 1, 1) := by decide +kernel
theorem dX9_sellNow_2 : decode cX9_sellNow 2 = .ok (.invokevirtual 109, 3) := by decide +kernel
theorem dX9_sellNow_5 : decode cX9_sellNow 5 = .ok (.aload_n 0, 1) := by decide +kernel
theorem dX9_sellNow_6 : decode cX9_sellNow 6 = .ok (.invokevirtual 146, 3) := by decide +kernel
theorem dX9_sellNow_9 : decode cX9_sellNow 9 = .ok (.istore_n 3, 1) := by decide +kernel
theorem dX9_sellNow_10 : decode cX9_sellNow 10 = .ok (.iconst 0, 1) := by decide +kernel
theorem dX9_sellNow_11 : decode cX9_sellNow 11 = .ok (.istore 4, 2) := by decide +kernel
theorem dX9_sellNow_13 : decode cX9_sellNow 13 = .ok (.iload 4, 2) := by decide +kernel
theorem dX9_sellNow_15 : decode cX9_sellNow 15 = .ok (.aload_n 0, 1) := by decide +kernel
theorem dX9_sellNow_16 : decode cX9_sellNow 16 = .ok (.getfield 69, 3) := by decide +kernel
theorem dX9_sellNow_19 : decode cX9_sellNow 19 = .ok (.if_icmp .ge 41, 3) := by decide +kernel
theorem dX9_sellNow_22 : decode cX9_sellNow 22 = .ok (.aload_n 0, 1) := by decide +kernel
theorem dX9_sellNow_23 : decode cX9_sellNow 23 = .ok (.getfield 13, 3) := by decide +kernel
theorem dX9_sellNow_26 : decode cX9_sellNow 26 = .ok (.aload_n 0, 1) := by decide +kernel
theorem dX9_sellNow_27 : decode cX9_sellNow 27 = .ok (.getfield 36, 3) := by decide +kernel
theorem dX9_sellNow_30 : decode cX9_sellNow 30 = .ok (.iload 4, 2) := by decide +kernel
theorem dX9_sellNow_32 : decode cX9_sellNow 32 = .ok (.iaload, 1) := by decide +kernel
theorem dX9_sellNow_33 : decode cX9_sellNow 33 = .ok (.dup2, 1) := by decide +kernel
theorem dX9_sellNow_34 : decode cX9_sellNow 34 = .ok (.iaload, 1) := by decide +kernel
theorem dX9_sellNow_35 : decode cX9_sellNow 35 = .ok (.iconst 1, 1) := by decide +kernel
theorem dX9_sellNow_36 : decode cX9_sellNow 36 = .ok (.isub, 1) := by decide +kernel
theorem dX9_sellNow_37 : decode cX9_sellNow 37 = .ok (.iastore, 1) := by decide +kernel
theorem dX9_sellNow_38 : decode cX9_sellNow 38 = .ok (.aload_n 0, 1) := by decide +kernel
theorem dX9_sellNow_39 : decode cX9_sellNow 39 = .ok (.getfield 23, 3) := by decide +kernel
theorem dX9_sellNow_42 : decode cX9_sellNow 42 = .ok (.aload_n 0, 1) := by decide +kernel
theorem dX9_sellNow_43 : decode cX9_sellNow 43 = .ok (.getfield 36, 3) := by decide +kernel
theorem dX9_sellNow_46 : decode cX9_sellNow 46 = .ok (.iload 4, 2) := by decide +kernel
theorem dX9_sellNow_48 : decode cX9_sellNow 48 = .ok (.iaload, 1) := by decide +kernel
theorem dX9_sellNow_49 : decode cX9_sellNow 49 = .ok (.dup2, 1) := by decide +kernel
theorem dX9_sellNow_50 : decode cX9_sellNow 50 = .ok (.iaload, 1) := by decide +kernel
theorem dX9_sellNow_51 : decode cX9_sellNow 51 = .ok (.iconst 1, 1) := by decide +kernel
theorem dX9_sellNow_52 : decode cX9_sellNow 52 = .ok (.iadd, 1) := by decide +kernel
theorem dX9_sellNow_53 : decode cX9_sellNow 53 = .ok (.iastore, 1) := by decide +kernel
theorem dX9_sellNow_54 : decode cX9_sellNow 54 = .ok (.iinc 4 1, 3) := by decide +kernel
theorem dX9_sellNow_57 : decode cX9_sellNow 57 = .ok (.goto (-44), 3) := by decide +kernel
theorem dX9_sellNow_60 : decode cX9_sellNow 60 = .ok (.aload_n 0, 1) := by decide +kernel
theorem dX9_sellNow_61 : decode cX9_sellNow 61 = .ok (.lload_n 1, 1) := by decide +kernel
theorem dX9_sellNow_62 : decode cX9_sellNow 62 = .ok (.iload_n 3, 1) := by decide +kernel
theorem dX9_sellNow_63 : decode cX9_sellNow 63 = .ok (.invokevirtual 162, 3) := by decide +kernel
theorem dX9_sellNow_66 : decode cX9_sellNow 66 = .ok (.iload_n 3, 1) := by decide +kernel
theorem dX9_sellNow_67 : decode cX9_sellNow 67 = .ok (.ireturn, 1) := by decide +kernel
set_option maxRecDepth 20000 in
theorem ggX9_sell_X9_isWord : GoodIn wsX9_sell wsX9_isWord := goodIn_r _ [4, 5, 6, 7, 3, 8, 9, 10, 11] (by decide +kernel) (by decide +kernel)
set_option maxRecDepth 20000 in
theorem gX9_sell_X9_isWord : GoodIn wsX9_sell (va_wsS RX9 79 yX9_isWord wsX9_isWord) := goodIn_app (goodIn_of _ (by decide +kernel)) ggX9_sell_X9_isWord
set_option maxRecDepth 20000 in
theorem ggX9_sell_X9_isBudget : GoodIn wsX9_sell wsX9_isBudget := goodIn_r _ [15, 16, 9, 10, 3, 11] (by decide +kernel) (by decide +kernel)
set_option maxRecDepth 20000 in
theorem gX9_sell_X9_isBudget : GoodIn wsX9_sell (wsV RX9 150 RX9 yX9_isBudget wsX9_isBudget) := goodIn_app (goodIn_of _ (by decide +kernel)) ggX9_sell_X9_isBudget
set_option maxRecDepth 20000 in
theorem ggX9_sell_X9_isGood : GoodIn wsX9_sell wsX9_isGood := goodIn_r _ [20, 21, 85, 86, 87, 88, 89, 90, 91, 92, 93, 94, 95, 96, 97, 98, 99, 100, 101, 102, 103] (by decide +kernel) (by decide +kernel)
set_option maxRecDepth 20000 in
theorem gX9_sell_X9_isGood : GoodIn wsX9_sell (wsV RX9 83 RX9 yX9_isGood wsX9_isGood) := goodIn_app (goodIn_of _ (by decide +kernel)) ggX9_sell_X9_isGood
set_option maxRecDepth 20000 in
theorem ggX9_sell_X9_refusal : GoodIn wsX9_sell wsX9_refusal := goodIn_r _ [25, 26, 27, 28, 3, 29, 30, 31, 32, 6, 7, 8, 33, 34, 35, 36, 37, 38, 39, 40, 41, 42, 43, 44, 45, 46, 47, 48, 49, 50, 51, 52, 53, 54, 55, 56, 57, 58, 59, 60, 61, 62, 63, 85, 86, 87, 88, 89, 90, 91, 92, 93, 94, 95, 96, 97, 98, 99, 100, 101, 102, 103] (by decide +kernel) (by decide +kernel)
set_option maxRecDepth 20000 in
theorem gX9_sell_X9_refusal : GoodIn wsX9_sell (wsV RX9 153 RX9 yX9_refusal wsX9_refusal) := goodIn_app (goodIn_of _ (by decide +kernel)) ggX9_sell_X9_refusal
set_option maxRecDepth 20000 in
theorem ggX9_sell_X9_sellNow : GoodIn wsX9_sell wsX9_sellNow := goodIn_r _ [67, 30, 43, 32, 68, 26, 27, 28, 3, 29, 31, 6, 7, 8, 44, 45, 46, 47, 48, 49, 50, 51, 52, 53, 54, 55, 56, 57, 58, 59, 60, 61, 62, 63, 69, 70, 71, 72, 73, 74, 75, 76, 77, 78, 79, 80, 85, 86, 87, 88, 89, 90, 91, 92, 93, 94, 95, 96, 97, 98, 99, 100, 101, 102, 103] (by decide +kernel) (by decide +kernel)
set_option maxRecDepth 20000 in
theorem gX9_sell_X9_sellNow : GoodIn wsX9_sell (wsV RX9 166 RX9 yX9_sellNow wsX9_sellNow) := goodIn_app (goodIn_of _ (by decide +kernel)) ggX9_sell_X9_sellNow
set_option maxRecDepth 20000 in
theorem ggX9_sell_X9_fail : GoodIn wsX9_sell wsX9_fail := goodIn_r _ [84, 21, 85, 86, 87, 88, 89, 90, 91, 92, 93, 94, 95, 96, 97, 98, 99, 100, 101, 102, 103] (by decide +kernel) (by decide +kernel)
set_option maxRecDepth 20000 in
theorem gX9_sell_X9_fail : GoodIn wsX9_sell (wsV RX9 90 RX9 yX9_fail wsX9_fail) := goodIn_app (goodIn_of _ (by decide +kernel)) ggX9_sell_X9_fail
theorem dX9_sell_0 : decode cX9_sell 0 = .ok (.aload_n 0, 1) := by decide +kernel
theorem dX9_sell_1 : decode cX9_sell 1 = .ok (.lload_n 1, 1) := by decide +kernel
theorem dX9_sell_2 : decode cX9_sell 2 = .ok (.invokestatic 79, 3) := by decide +kernel
theorem dX9_sell_5 : decode cX9_sell 5 = .ok (.ifCond .eq 15, 3) := by decide +kernel
theorem dX9_sell_8 : decode cX9_sell 8 = .ok (.aload_n 0, 1) := by decide +kernel
theorem dX9_sell_9 : decode cX9_sell 9 = .ok (.iload_n 3, 1) := by decide +kernel
theorem dX9_sell_10 : decode cX9_sell 10 = .ok (.invokevirtual 150, 3) := by decide +kernel
theorem dX9_sell_13 : decode cX9_sell 13 = .ok (.ifCond .eq 7, 3) := by decide +kernel
theorem dX9_sell_16 : decode cX9_sell 16 = .ok (.iconst 1, 1) := by decide +kernel
theorem dX9_sell_17 : decode cX9_sell 17 = .ok (.goto 4, 3) := by decide +kernel
theorem dX9_sell_20 : decode cX9_sell 20 = .ok (.iconst 0, 1) := by decide +kernel
theorem dX9_sell_21 : decode cX9_sell 21 = .ok (.invokevirtual 83, 3) := by decide +kernel
theorem dX9_sell_24 : decode cX9_sell 24 = .ok (.ifCond .ne 5, 3) := by decide +kernel
theorem dX9_sell_27 : decode cX9_sell 27 = .ok (.iconst 0, 1) := by decide +kernel
theorem dX9_sell_28 : decode cX9_sell 28 = .ok (.ireturn, 1) := by decide +kernel
theorem dX9_sell_29 : decode cX9_sell 29 = .ok (.aload_n 0, 1) := by decide +kernel
theorem dX9_sell_30 : decode cX9_sell 30 = .ok (.lload_n 1, 1) := by decide +kernel
theorem dX9_sell_31 : decode cX9_sell 31 = .ok (.iload_n 3, 1) := by decide +kernel
theorem dX9_sell_32 : decode cX9_sell 32 = .ok (.invokevirtual 153, 3) := by decide +kernel
theorem dX9_sell_35 : decode cX9_sell 35 = .ok (.ifCond .ne 11, 3) := by decide +kernel
theorem dX9_sell_38 : decode cX9_sell 38 = .ok (.aload_n 0, 1) := by decide +kernel
theorem dX9_sell_39 : decode cX9_sell 39 = .ok (.lload_n 1, 1) := by decide +kernel
theorem dX9_sell_40 : decode cX9_sell 40 = .ok (.invokevirtual 166, 3) := by decide +kernel
theorem dX9_sell_43 : decode cX9_sell 43 = .ok (.goto 8, 3) := by decide +kernel
theorem dX9_sell_46 : decode cX9_sell 46 = .ok (.aload_n 0, 1) := by decide +kernel
theorem dX9_sell_47 : decode cX9_sell 47 = .ok (.iconst 2, 1) := by decide +kernel
theorem dX9_sell_48 : decode cX9_sell 48 = .ok (.invokevirtual 90, 3) := by decide +kernel
theorem dX9_sell_51 : decode cX9_sell 51 = .ok (.ireturn, 1) := by decide +kernel
set_option maxRecDepth 20000 in
theorem ggX9_affordableWords_X9_isBudget : GoodIn wsX9_affordableWords wsX9_isBudget := goodIn_r _ [7, 8, 9, 10, 6, 11] (by decide +kernel) (by decide +kernel)
set_option maxRecDepth 20000 in
theorem gX9_affordableWords_X9_isBudget : GoodIn wsX9_affordableWords (wsV RX9 150 RX9 yX9_isBudget wsX9_isBudget) := goodIn_app (goodIn_of _ (by decide +kernel)) ggX9_affordableWords_X9_isBudget
set_option maxRecDepth 20000 in
theorem ggX9_affordableWords_X9_isGood : GoodIn wsX9_affordableWords wsX9_isGood := goodIn_r _ [15, 16, 60, 61, 62, 63, 64, 65, 66, 67, 68, 69, 70, 71, 72, 73, 74, 75, 76, 77, 78] (by decide +kernel) (by decide +kernel)
set_option maxRecDepth 20000 in
theorem gX9_affordableWords_X9_isGood : GoodIn wsX9_affordableWords (wsV RX9 83 RX9 yX9_isGood wsX9_isGood) := goodIn_app (goodIn_of _ (by decide +kernel)) ggX9_affordableWords_X9_isGood
set_option maxRecDepth 20000 in
theorem ggX9_affordableWords_X9_refusal : GoodIn wsX9_affordableWords wsX9_refusal := goodIn_r _ [20, 21, 22, 23, 6, 24, 25, 26, 27, 28, 29, 30, 31, 32, 33, 34, 1, 2, 35, 36, 37, 38, 39, 40, 41, 42, 43, 44, 45, 46, 47, 48, 49, 50, 51, 52, 53, 54, 55, 56, 57, 58, 59, 60, 61, 62, 63, 64, 65, 66, 67, 68, 69, 70, 71, 72, 73, 74, 75, 76, 77, 78] (by decide +kernel) (by decide +kernel)
set_option maxRecDepth 20000 in
theorem gX9_affordableWords_X9_refusal : GoodIn wsX9_affordableWords (wsV RX9 153 RX9 yX9_refusal wsX9_refusal) := goodIn_app (goodIn_of _ (by decide +kernel)) ggX9_affordableWords_X9_refusal
theorem dX9_affordableWords_0 : decode cX9_affordableWords 0 = .ok (.aload_n 0, 1) := by decide +kernel
theorem dX9_affordableWords_1 : decode cX9_affordableWords 1 = .ok (.aload_n 0, 1) := by decide +kernel
theorem dX9_affordableWords_2 : decode cX9_affordableWords 2 = .ok (.iload_n 1, 1) := by decide +kernel
theorem dX9_affordableWords_3 : decode cX9_affordableWords 3 = .ok (.invokevirtual 150, 3) := by decide +kernel
theorem dX9_affordableWords_6 : decode cX9_affordableWords 6 = .ok (.invokevirtual 83, 3) := by decide +kernel
theorem dX9_affordableWords_9 : decode cX9_affordableWords 9 = .ok (.ifCond .ne 5, 3) := by decide +kernel
theorem dX9_affordableWords_12 : decode cX9_affordableWords 12 = .ok (.iconst 0, 1) := by decide +kernel
theorem dX9_affordableWords_13 : decode cX9_affordableWords 13 = .ok (.ireturn, 1) := by decide +kernel
theorem dX9_affordableWords_14 : decode cX9_affordableWords 14 = .ok (.iconst 0, 1) := by decide +kernel
theorem dX9_affordableWords_15 : decode cX9_affordableWords 15 = .ok (.istore_n 2, 1) := by decide +kernel
theorem dX9_affordableWords_16 : decode cX9_affordableWords 16 = .ok (.iconst 0, 1) := by decide +kernel
theorem dX9_affordableWords_17 : decode cX9_affordableWords 17 = .ok (.istore_n 3, 1) := by decide +kernel
theorem dX9_affordableWords_18 : decode cX9_affordableWords 18 = .ok (.iload_n 3, 1) := by decide +kernel
theorem dX9_affordableWords_19 : decode cX9_affordableWords 19 = .ok (.aload_n 0, 1) := by decide +kernel
theorem dX9_affordableWords_20 : decode cX9_affordableWords 20 = .ok (.getfield 76, 3) := by decide +kernel
theorem dX9_affordableWords_23 : decode cX9_affordableWords 23 = .ok (.if_icmp .ge 31, 3) := by decide +kernel
theorem dX9_affordableWords_26 : decode cX9_affordableWords 26 = .ok (.iload_n 2, 1) := by decide +kernel
theorem dX9_affordableWords_27 : decode cX9_affordableWords 27 = .ok (.aload_n 0, 1) := by decide +kernel
theorem dX9_affordableWords_28 : decode cX9_affordableWords 28 = .ok (.aload_n 0, 1) := by decide +kernel
theorem dX9_affordableWords_29 : decode cX9_affordableWords 29 = .ok (.getfield 7, 3) := by decide +kernel
theorem dX9_affordableWords_32 : decode cX9_affordableWords 32 = .ok (.iload_n 3, 1) := by decide +kernel
theorem dX9_affordableWords_33 : decode cX9_affordableWords 33 = .ok (.laload, 1) := by decide +kernel
theorem dX9_affordableWords_34 : decode cX9_affordableWords 34 = .ok (.iload_n 1, 1) := by decide +kernel
theorem dX9_affordableWords_35 : decode cX9_affordableWords 35 = .ok (.invokevirtual 153, 3) := by decide +kernel
theorem dX9_affordableWords_38 : decode cX9_affordableWords 38 = .ok (.ifCond .ne 7, 3) := by decide +kernel
theorem dX9_affordableWords_41 : decode cX9_affordableWords 41 = .ok (.iconst 1, 1) := by decide +kernel
theorem dX9_affordableWords_42 : decode cX9_affordableWords 42 = .ok (.goto 4, 3) := by decide +kernel
theorem dX9_affordableWords_45 : decode cX9_affordableWords 45 = .ok (.iconst 0, 1) := by decide +kernel
theorem dX9_affordableWords_46 : decode cX9_affordableWords 46 = .ok (.iadd, 1) := by decide +kernel
theorem dX9_affordableWords_47 : decode cX9_affordableWords 47 = .ok (.istore_n 2, 1) := by decide +kernel
theorem dX9_affordableWords_48 : decode cX9_affordableWords 48 = .ok (.iinc 3 1, 3) := by decide +kernel
theorem dX9_affordableWords_51 : decode cX9_affordableWords 51 = .ok (.goto (-33), 3) := by decide +kernel
theorem dX9_affordableWords_54 : decode cX9_affordableWords 54 = .ok (.iload_n 2, 1) := by decide +kernel
theorem dX9_affordableWords_55 : decode cX9_affordableWords 55 = .ok (.ireturn, 1) := by decide +kernel
set_option maxRecDepth 20000 in
theorem ggX9_costNow_X9_spell : GoodIn wsX9_costNow wsX9_spell := goodIn_r _ [5, 6, 7, 8, 9, 10, 4, 11, 33, 34, 35, 36, 37, 38, 39, 40, 41, 42, 43, 44, 45, 46, 47, 48, 49, 50, 51] (by decide +kernel) (by decide +kernel)
set_option maxRecDepth 20000 in
theorem gX9_costNow_X9_spell : GoodIn wsX9_costNow (wsV RX9 109 RX9 yX9_spell wsX9_spell) := goodIn_app (goodIn_of _ (by decide +kernel)) ggX9_costNow_X9_spell
set_option maxRecDepth 20000 in
theorem ggX9_costNow_X9_cost : GoodIn wsX9_costNow wsX9_cost := goodIn_r _ [15, 16, 6, 8, 17, 18, 19, 20, 4, 21, 22, 23, 24, 25, 26, 27, 28, 29, 30, 31, 32, 33, 34, 35, 36, 37, 38, 39, 40, 41, 42, 43, 44, 45, 46, 47, 48, 49, 50, 51] (by decide +kernel) (by decide +kernel)
set_option maxRecDepth 20000 in
theorem gX9_costNow_X9_cost : GoodIn wsX9_costNow (wsV RX9 146 RX9 yX9_cost wsX9_cost) := goodIn_app (goodIn_of _ (by decide +kernel)) ggX9_costNow_X9_cost
theorem dX9_costNow_0 : decode cX9_costNow 0 = .ok (.aload_n 0, 1) := by decide +kernel
theorem dX9_costNow_1 : decode cX9_costNow 1 = .ok (.lload_n 1, 1) := by decide +kernel
theorem dX9_costNow_2 : decode cX9_costNow 2 = .ok (.invokevirtual 109, 3) := by decide +kernel
theorem dX9_costNow_5 : decode cX9_costNow 5 = .ok (.aload_n 0, 1) := by decide +kernel
theorem dX9_costNow_6 : decode cX9_costNow 6 = .ok (.invokevirtual 146, 3) := by decide +kernel
theorem dX9_costNow_9 : decode cX9_costNow 9 = .ok (.ireturn, 1) := by decide +kernel
set_option maxRecDepth 20000 in
theorem ggX9_isBetter_X9_lengthOf : GoodIn wsX9_isBetter wsX9_lengthOf := goodIn_r _ [4] (by decide +kernel) (by decide +kernel)
set_option maxRecDepth 20000 in
theorem gX9_isBetter_X9_lengthOf : GoodIn wsX9_isBetter (va_wsS RX9 59 yX9_lengthOf wsX9_lengthOf) := goodIn_app (goodIn_of _ (by decide +kernel)) ggX9_isBetter_X9_lengthOf
set_option maxRecDepth 20000 in
theorem ggX9_isBetter_X9_costNow : GoodIn wsX9_isBetter wsX9_costNow := goodIn_r _ [8, 9, 10, 11, 3, 12, 13, 14, 15, 1, 2, 4, 16, 17, 18, 19, 20, 21, 22, 23, 24, 25, 26, 27, 28, 29, 30, 31, 32, 33, 34, 35, 36, 40, 41, 42, 43, 44, 45, 46, 47, 48, 49, 50, 51, 52, 53, 54, 55, 56, 57, 58] (by decide +kernel) (by decide +kernel)
set_option maxRecDepth 20000 in
theorem gX9_isBetter_X9_costNow : GoodIn wsX9_isBetter (wsV RX9 169 RX9 yX9_costNow wsX9_costNow) := goodIn_app (goodIn_of _ (by decide +kernel)) ggX9_isBetter_X9_costNow
set_option maxRecDepth 20000 in
theorem ggX9_isBetter_X9_key : GoodIn wsX9_isBetter wsX9_key := goodIn_r _ [39, 1, 2, 3, 4] (by decide +kernel) (by decide +kernel)
set_option maxRecDepth 20000 in
theorem gX9_isBetter_X9_key : GoodIn wsX9_isBetter (va_wsS RX9 101 yX9_key wsX9_key) := goodIn_app (goodIn_of _ (by decide +kernel)) ggX9_isBetter_X9_key
theorem dX9_isBetter_0 : decode cX9_isBetter 0 = .ok (.lload_n 1, 1) := by decide +kernel
theorem dX9_isBetter_1 : decode cX9_isBetter 1 = .ok (.invokestatic 59, 3) := by decide +kernel
theorem dX9_isBetter_4 : decode cX9_isBetter 4 = .ok (.lload_n 3, 1) := by decide +kernel
theorem dX9_isBetter_5 : decode cX9_isBetter 5 = .ok (.invokestatic 59, 3) := by decide +kernel
theorem dX9_isBetter_8 : decode cX9_isBetter 8 = .ok (.if_icmp .eq 20, 3) := by decide +kernel
theorem dX9_isBetter_11 : decode cX9_isBetter 11 = .ok (.lload_n 1, 1) := by decide +kernel
theorem dX9_isBetter_12 : decode cX9_isBetter 12 = .ok (.invokestatic 59, 3) := by decide +kernel
theorem dX9_isBetter_15 : decode cX9_isBetter 15 = .ok (.lload_n 3, 1) := by decide +kernel
theorem dX9_isBetter_16 : decode cX9_isBetter 16 = .ok (.invokestatic 59, 3) := by decide +kernel
theorem dX9_isBetter_19 : decode cX9_isBetter 19 = .ok (.if_icmp .le 7, 3) := by decide +kernel
theorem dX9_isBetter_22 : decode cX9_isBetter 22 = .ok (.iconst 1, 1) := by decide +kernel
theorem dX9_isBetter_23 : decode cX9_isBetter 23 = .ok (.goto 4, 3) := by decide +kernel
theorem dX9_isBetter_26 : decode cX9_isBetter 26 = .ok (.iconst 0, 1) := by decide +kernel
theorem dX9_isBetter_27 : decode cX9_isBetter 27 = .ok (.ireturn, 1) := by decide +kernel
theorem dX9_isBetter_28 : decode cX9_isBetter 28 = .ok (.aload_n 0, 1) := by decide +kernel
theorem dX9_isBetter_29 : decode cX9_isBetter 29 = .ok (.lload_n 3, 1) := by decide +kernel
theorem dX9_isBetter_30 : decode cX9_isBetter 30 = .ok (.invokevirtual 169, 3) := by decide +kernel
theorem dX9_isBetter_33 : decode cX9_isBetter 33 = .ok (.aload_n 0, 1) := by decide +kernel
theorem dX9_isBetter_34 : decode cX9_isBetter 34 = .ok (.lload_n 1, 1) := by decide +kernel
theorem dX9_isBetter_35 : decode cX9_isBetter 35 = .ok (.invokevirtual 169, 3) := by decide +kernel
theorem dX9_isBetter_38 : decode cX9_isBetter 38 = .ok (.isub, 1) := by decide +kernel
theorem dX9_isBetter_39 : decode cX9_isBetter 39 = .ok (.istore 5, 2) := by decide +kernel
theorem dX9_isBetter_41 : decode cX9_isBetter 41 = .ok (.iload 5, 2) := by decide +kernel
theorem dX9_isBetter_43 : decode cX9_isBetter 43 = .ok (.ifCond .gt 20, 3) := by decide +kernel
theorem dX9_isBetter_46 : decode cX9_isBetter 46 = .ok (.iload 5, 2) := by decide +kernel
theorem dX9_isBetter_48 : decode cX9_isBetter 48 = .ok (.ifCond .ne 19, 3) := by decide +kernel
theorem dX9_isBetter_51 : decode cX9_isBetter 51 = .ok (.lload_n 1, 1) := by decide +kernel
theorem dX9_isBetter_52 : decode cX9_isBetter 52 = .ok (.invokestatic 101, 3) := by decide +kernel
theorem dX9_isBetter_55 : decode cX9_isBetter 55 = .ok (.lload_n 3, 1) := by decide +kernel
theorem dX9_isBetter_56 : decode cX9_isBetter 56 = .ok (.invokestatic 101, 3) := by decide +kernel
theorem dX9_isBetter_59 : decode cX9_isBetter 59 = .ok (.lcmp, 1) := by decide +kernel
theorem dX9_isBetter_60 : decode cX9_isBetter 60 = .ok (.ifCond .ge 7, 3) := by decide +kernel
theorem dX9_isBetter_63 : decode cX9_isBetter 63 = .ok (.iconst 1, 1) := by decide +kernel
theorem dX9_isBetter_64 : decode cX9_isBetter 64 = .ok (.goto 4, 3) := by decide +kernel
theorem dX9_isBetter_67 : decode cX9_isBetter 67 = .ok (.iconst 0, 1) := by decide +kernel
theorem dX9_isBetter_68 : decode cX9_isBetter 68 = .ok (.ireturn, 1) := by decide +kernel
set_option maxRecDepth 20000 in
theorem ggX9_best_X9_refusal : GoodIn wsX9_best wsX9_refusal := goodIn_r _ [7, 8, 9, 10, 6, 11, 12, 13, 14, 15, 16, 17, 18, 19, 20, 21, 1, 2, 22, 23, 24, 25, 26, 27, 28, 29, 30, 31, 32, 33, 34, 35, 36, 37, 38, 39, 40, 41, 42, 43, 44, 45, 46, 58, 59, 60, 61, 62, 63, 64, 65, 66, 67, 68, 69, 70, 71, 72, 73, 74, 75, 76] (by decide +kernel) (by decide +kernel)
set_option maxRecDepth 20000 in
theorem gX9_best_X9_refusal : GoodIn wsX9_best (wsV RX9 153 RX9 yX9_refusal wsX9_refusal) := goodIn_app (goodIn_of _ (by decide +kernel)) ggX9_best_X9_refusal
set_option maxRecDepth 20000 in
theorem ggX9_best_X9_isBetter : GoodIn wsX9_best wsX9_isBetter := goodIn_r _ [50, 15, 16, 6, 17, 51, 52, 53, 54, 8, 9, 10, 11, 12, 13, 14, 27, 28, 29, 30, 31, 26, 32, 33, 34, 35, 36, 37, 38, 39, 40, 41, 42, 43, 44, 45, 46, 55, 56, 57, 58, 59, 60, 61, 62, 63, 64, 65, 66, 67, 68, 69, 70, 71, 72, 73, 74, 75, 76] (by decide +kernel) (by decide +kernel)
set_option maxRecDepth 20000 in
theorem gX9_best_X9_isBetter : GoodIn wsX9_best (wsV RX9 172 RX9 yX9_isBetter wsX9_isBetter) := goodIn_app (goodIn_of _ (by decide +kernel)) ggX9_best_X9_isBetter
theorem dX9_best_0 : decode cX9_best 0 = .ok (.lconst 0, 1) := by decide +kernel
theorem dX9_best_1 : decode cX9_best 1 = .ok (.lstore_n 2, 1) := by decide +kernel
theorem dX9_best_2 : decode cX9_best 2 = .ok (.iconst 0, 1) := by decide +kernel
theorem dX9_best_3 : decode cX9_best 3 = .ok (.istore 4, 2) := by decide +kernel
theorem dX9_best_5 : decode cX9_best 5 = .ok (.iload 4, 2) := by decide +kernel
theorem dX9_best_7 : decode cX9_best 7 = .ok (.aload_n 0, 1) := by decide +kernel
theorem dX9_best_8 : decode cX9_best 8 = .ok (.getfield 76, 3) := by decide +kernel
theorem dX9_best_11 : decode cX9_best 11 = .ok (.if_icmp .ge 53, 3) := by decide +kernel
theorem dX9_best_14 : decode cX9_best 14 = .ok (.aload_n 0, 1) := by decide +kernel
theorem dX9_best_15 : decode cX9_best 15 = .ok (.aload_n 0, 1) := by decide +kernel
theorem dX9_best_16 : decode cX9_best 16 = .ok (.getfield 7, 3) := by decide +kernel
theorem dX9_best_19 : decode cX9_best 19 = .ok (.iload 4, 2) := by decide +kernel
theorem dX9_best_21 : decode cX9_best 21 = .ok (.laload, 1) := by decide +kernel
theorem dX9_best_22 : decode cX9_best 22 = .ok (.iload_n 1, 1) := by decide +kernel
theorem dX9_best_23 : decode cX9_best 23 = .ok (.invokevirtual 153, 3) := by decide +kernel
theorem dX9_best_26 : decode cX9_best 26 = .ok (.ifCond .ne 32, 3) := by decide +kernel
theorem dX9_best_29 : decode cX9_best 29 = .ok (.lload_n 2, 1) := by decide +kernel
theorem dX9_best_30 : decode cX9_best 30 = .ok (.lconst 0, 1) := by decide +kernel
theorem dX9_best_31 : decode cX9_best 31 = .ok (.lcmp, 1) := by decide +kernel
theorem dX9_best_32 : decode cX9_best 32 = .ok (.ifCond .eq 18, 3) := by decide +kernel
theorem dX9_best_35 : decode cX9_best 35 = .ok (.aload_n 0, 1) := by decide +kernel
theorem dX9_best_36 : decode cX9_best 36 = .ok (.aload_n 0, 1) := by decide +kernel
theorem dX9_best_37 : decode cX9_best 37 = .ok (.getfield 7, 3) := by decide +kernel
theorem dX9_best_40 : decode cX9_best 40 = .ok (.iload 4, 2) := by decide +kernel
theorem dX9_best_42 : decode cX9_best 42 = .ok (.laload, 1) := by decide +kernel
theorem dX9_best_43 : decode cX9_best 43 = .ok (.lload_n 2, 1) := by decide +kernel
theorem dX9_best_44 : decode cX9_best 44 = .ok (.invokevirtual 172, 3) := by decide +kernel
theorem dX9_best_47 : decode cX9_best 47 = .ok (.ifCond .eq 11, 3) := by decide +kernel
theorem dX9_best_50 : decode cX9_best 50 = .ok (.aload_n 0, 1) := by decide +kernel
theorem dX9_best_51 : decode cX9_best 51 = .ok (.getfield 7, 3) := by decide +kernel
theorem dX9_best_54 : decode cX9_best 54 = .ok (.iload 4, 2) := by decide +kernel
theorem dX9_best_56 : decode cX9_best 56 = .ok (.laload, 1) := by decide +kernel
theorem dX9_best_57 : decode cX9_best 57 = .ok (.lstore_n 2, 1) := by decide +kernel
theorem dX9_best_58 : decode cX9_best 58 = .ok (.iinc 4 1, 3) := by decide +kernel
theorem dX9_best_61 : decode cX9_best 61 = .ok (.goto (-56), 3) := by decide +kernel
theorem dX9_best_64 : decode cX9_best 64 = .ok (.lload_n 2, 1) := by decide +kernel
theorem dX9_best_65 : decode cX9_best 65 = .ok (.lreturn, 1) := by decide +kernel
set_option maxRecDepth 20000 in
theorem ggX9_bestWord_X9_isBudget : GoodIn wsX9_bestWord wsX9_isBudget := goodIn_r _ [5, 6, 7, 8, 4, 9] (by decide +kernel) (by decide +kernel)
set_option maxRecDepth 20000 in
theorem gX9_bestWord_X9_isBudget : GoodIn wsX9_bestWord (wsV RX9 150 RX9 yX9_isBudget wsX9_isBudget) := goodIn_app (goodIn_of _ (by decide +kernel)) ggX9_bestWord_X9_isBudget
set_option maxRecDepth 20000 in
theorem ggX9_bestWord_X9_isGood : GoodIn wsX9_bestWord wsX9_isGood := goodIn_r _ [13, 14, 75, 76, 77, 78, 79, 80, 81, 82, 83, 84, 85, 86, 87, 88, 89, 90, 91, 92, 93] (by decide +kernel) (by decide +kernel)
set_option maxRecDepth 20000 in
theorem gX9_bestWord_X9_isGood : GoodIn wsX9_bestWord (wsV RX9 83 RX9 yX9_isGood wsX9_isGood) := goodIn_app (goodIn_of _ (by decide +kernel)) ggX9_bestWord_X9_isGood
set_option maxRecDepth 20000 in
theorem ggX9_bestWord_X9_best : GoodIn wsX9_bestWord wsX9_best := goodIn_r _ [18, 19, 20, 21, 22, 23, 4, 24, 25, 26, 27, 28, 29, 30, 31, 32, 33, 34, 35, 36, 37, 38, 39, 40, 41, 42, 43, 44, 45, 46, 47, 48, 49, 50, 51, 52, 53, 54, 55, 56, 57, 58, 59, 60, 61, 62, 63, 64, 65, 66, 67, 68, 69, 70, 71, 72, 73, 74, 75, 76, 77, 78, 79, 80, 81, 82, 83, 84, 85, 86, 87, 88, 89, 90, 91, 92, 93] (by decide +kernel) (by decide +kernel)
set_option maxRecDepth 20000 in
theorem gX9_bestWord_X9_best : GoodIn wsX9_bestWord (wsV RX9 176 RX9 yX9_best wsX9_best) := goodIn_app (goodIn_of _ (by decide +kernel)) ggX9_bestWord_X9_best
theorem dX9_bestWord_0 : decode cX9_bestWord 0 = .ok (.aload_n 0, 1) := by decide +kernel
theorem dX9_bestWord_1 : decode cX9_bestWord 1 = .ok (.aload_n 0, 1) := by decide +kernel
theorem dX9_bestWord_2 : decode cX9_bestWord 2 = .ok (.iload_n 1, 1) := by decide +kernel
theorem dX9_bestWord_3 : decode cX9_bestWord 3 = .ok (.invokevirtual 150, 3) := by decide +kernel
theorem dX9_bestWord_6 : decode cX9_bestWord 6 = .ok (.invokevirtual 83, 3) := by decide +kernel
theorem dX9_bestWord_9 : decode cX9_bestWord 9 = .ok (.ifCond .eq 11, 3) := by decide +kernel
theorem dX9_bestWord_12 : decode cX9_bestWord 12 = .ok (.aload_n 0, 1) := by decide +kernel
theorem dX9_bestWord_13 : decode cX9_bestWord 13 = .ok (.iload_n 1, 1) := by decide +kernel
theorem dX9_bestWord_14 : decode cX9_bestWord 14 = .ok (.invokevirtual 176, 3) := by decide +kernel
theorem dX9_bestWord_17 : decode cX9_bestWord 17 = .ok (.goto 4, 3) := by decide +kernel
theorem dX9_bestWord_20 : decode cX9_bestWord 20 = .ok (.lconst 0, 1) := by decide +kernel
theorem dX9_bestWord_21 : decode cX9_bestWord 21 = .ok (.lreturn, 1) := by decide +kernel
set_option maxRecDepth 20000 in
theorem ggX9_spend_X9_isBudget : GoodIn wsX9_spend wsX9_isBudget := goodIn_r _ [5, 6, 7, 8, 4, 9] (by decide +kernel) (by decide +kernel)
set_option maxRecDepth 20000 in
theorem gX9_spend_X9_isBudget : GoodIn wsX9_spend (wsV RX9 150 RX9 yX9_isBudget wsX9_isBudget) := goodIn_app (goodIn_of _ (by decide +kernel)) ggX9_spend_X9_isBudget
set_option maxRecDepth 20000 in
theorem ggX9_spend_X9_isGood : GoodIn wsX9_spend wsX9_isGood := goodIn_r _ [13, 14, 92, 93, 94, 95, 96, 97, 98, 99, 100, 101, 102, 103, 104, 105, 106, 107, 108, 109, 110] (by decide +kernel) (by decide +kernel)
set_option maxRecDepth 20000 in
theorem gX9_spend_X9_isGood : GoodIn wsX9_spend (wsV RX9 83 RX9 yX9_isGood wsX9_isGood) := goodIn_app (goodIn_of _ (by decide +kernel)) ggX9_spend_X9_isGood
set_option maxRecDepth 20000 in
theorem ggX9_spend_X9_best : GoodIn wsX9_spend wsX9_best := goodIn_r _ [18, 19, 20, 21, 22, 23, 4, 24, 25, 26, 27, 28, 29, 30, 31, 32, 33, 34, 35, 36, 37, 38, 39, 40, 41, 42, 43, 44, 45, 46, 47, 48, 49, 50, 51, 52, 53, 54, 55, 56, 57, 58, 59, 60, 61, 62, 63, 64, 65, 66, 67, 68, 69, 70, 71, 72, 73, 74, 92, 93, 94, 95, 96, 97, 98, 99, 100, 101, 102, 103, 104, 105, 106, 107, 108, 109, 110] (by decide +kernel) (by decide +kernel)
set_option maxRecDepth 20000 in
theorem gX9_spend_X9_best : GoodIn wsX9_spend (wsV RX9 176 RX9 yX9_best wsX9_best) := goodIn_app (goodIn_of _ (by decide +kernel)) ggX9_spend_X9_best
set_option maxRecDepth 20000 in
theorem ggX9_spend_X9_sellNow : GoodIn wsX9_spend wsX9_sellNow := goodIn_r _ [78, 29, 43, 31, 79, 25, 26, 27, 4, 28, 30, 32, 33, 34, 44, 45, 46, 47, 48, 49, 50, 51, 52, 53, 54, 55, 56, 57, 58, 59, 60, 61, 62, 63, 80, 81, 82, 83, 84, 85, 86, 87, 88, 89, 90, 91, 92, 93, 94, 95, 96, 97, 98, 99, 100, 101, 102, 103, 104, 105, 106, 107, 108, 109, 110] (by decide +kernel) (by decide +kernel)
set_option maxRecDepth 20000 in
theorem gX9_spend_X9_sellNow : GoodIn wsX9_spend (wsV RX9 166 RX9 yX9_sellNow wsX9_sellNow) := goodIn_app (goodIn_of _ (by decide +kernel)) ggX9_spend_X9_sellNow
theorem dX9_spend_0 : decode cX9_spend 0 = .ok (.aload_n 0, 1) := by decide +kernel
theorem dX9_spend_1 : decode cX9_spend 1 = .ok (.aload_n 0, 1) := by decide +kernel
theorem dX9_spend_2 : decode cX9_spend 2 = .ok (.iload_n 1, 1) := by decide +kernel
theorem dX9_spend_3 : decode cX9_spend 3 = .ok (.invokevirtual 150, 3) := by decide +kernel
theorem dX9_spend_6 : decode cX9_spend 6 = .ok (.invokevirtual 83, 3) := by decide +kernel
theorem dX9_spend_9 : decode cX9_spend 9 = .ok (.ifCond .ne 5, 3) := by decide +kernel
theorem dX9_spend_12 : decode cX9_spend 12 = .ok (.iconst 0, 1) := by decide +kernel
theorem dX9_spend_13 : decode cX9_spend 13 = .ok (.ireturn, 1) := by decide +kernel
theorem dX9_spend_14 : decode cX9_spend 14 = .ok (.iconst 0, 1) := by decide +kernel
theorem dX9_spend_15 : decode cX9_spend 15 = .ok (.istore_n 2, 1) := by decide +kernel
theorem dX9_spend_16 : decode cX9_spend 16 = .ok (.iload_n 1, 1) := by decide +kernel
theorem dX9_spend_17 : decode cX9_spend 17 = .ok (.istore_n 3, 1) := by decide +kernel
theorem dX9_spend_18 : decode cX9_spend 18 = .ok (.aload_n 0, 1) := by decide +kernel
theorem dX9_spend_19 : decode cX9_spend 19 = .ok (.iload_n 3, 1) := by decide +kernel
theorem dX9_spend_20 : decode cX9_spend 20 = .ok (.invokevirtual 176, 3) := by decide +kernel
theorem dX9_spend_23 : decode cX9_spend 23 = .ok (.lstore 4, 2) := by decide +kernel
theorem dX9_spend_25 : decode cX9_spend 25 = .ok (.lload 4, 2) := by decide +kernel
theorem dX9_spend_27 : decode cX9_spend 27 = .ok (.lconst 0, 1) := by decide +kernel
theorem dX9_spend_28 : decode cX9_spend 28 = .ok (.lcmp, 1) := by decide +kernel
theorem dX9_spend_29 : decode cX9_spend 29 = .ok (.ifCond .eq 31, 3) := by decide +kernel
theorem dX9_spend_32 : decode cX9_spend 32 = .ok (.iload_n 2, 1) := by decide +kernel
theorem dX9_spend_33 : decode cX9_spend 33 = .ok (.bipush 20, 2) := by decide +kernel
theorem dX9_spend_35 : decode cX9_spend 35 = .ok (.if_icmp .ge 25, 3) := by decide +kernel
theorem dX9_spend_38 : decode cX9_spend 38 = .ok (.iload_n 3, 1) := by decide +kernel
theorem dX9_spend_39 : decode cX9_spend 39 = .ok (.aload_n 0, 1) := by decide +kernel
theorem dX9_spend_40 : decode cX9_spend 40 = .ok (.lload 4, 2) := by decide +kernel
theorem dX9_spend_42 : decode cX9_spend 42 = .ok (.invokevirtual 166, 3) := by decide +kernel
theorem dX9_spend_45 : decode cX9_spend 45 = .ok (.isub, 1) := by decide +kernel
theorem dX9_spend_46 : decode cX9_spend 46 = .ok (.istore_n 3, 1) := by decide +kernel
theorem dX9_spend_47 : decode cX9_spend 47 = .ok (.iinc 2 1, 3) := by decide +kernel
theorem dX9_spend_50 : decode cX9_spend 50 = .ok (.aload_n 0, 1) := by decide +kernel
theorem dX9_spend_51 : decode cX9_spend 51 = .ok (.iload_n 3, 1) := by decide +kernel
theorem dX9_spend_52 : decode cX9_spend 52 = .ok (.invokevirtual 176, 3) := by decide +kernel
theorem dX9_spend_55 : decode cX9_spend 55 = .ok (.lstore 4, 2) := by decide +kernel
theorem dX9_spend_57 : decode cX9_spend 57 = .ok (.goto (-32), 3) := by decide +kernel
theorem dX9_spend_60 : decode cX9_spend 60 = .ok (.iload_n 2, 1) := by decide +kernel
theorem dX9_spend_61 : decode cX9_spend 61 = .ok (.ireturn, 1) := by decide +kernel
set_option maxRecDepth 20000 in
theorem ggX9_findOrder_X9_fits : GoodIn wsX9_findOrder wsX9_fits := goodIn_r _ [8, 9, 10, 11, 12, 7, 13, 20, 21, 22, 23, 24, 25, 26, 27, 28, 29, 30, 31, 32, 33, 34, 35, 36, 37, 38] (by decide +kernel) (by decide +kernel)
set_option maxRecDepth 20000 in
theorem gX9_findOrder_X9_fits : GoodIn wsX9_findOrder (wsV RX9 94 RX9 yX9_fits wsX9_fits) := goodIn_app (goodIn_of _ (by decide +kernel)) ggX9_findOrder_X9_fits
set_option maxRecDepth 20000 in
theorem ggX9_findOrder_X9_key : GoodIn wsX9_findOrder wsX9_key := goodIn_r _ [16, 17, 18, 7, 19] (by decide +kernel) (by decide +kernel)
set_option maxRecDepth 20000 in
theorem gX9_findOrder_X9_key : GoodIn wsX9_findOrder (va_wsS RX9 101 yX9_key wsX9_key) := goodIn_app (goodIn_of _ (by decide +kernel)) ggX9_findOrder_X9_key
theorem dX9_findOrder_0 : decode cX9_findOrder 0 = .ok (.iconst 0, 1) := by decide +kernel
theorem dX9_findOrder_1 : decode cX9_findOrder 1 = .ok (.istore_n 1, 1) := by decide +kernel
theorem dX9_findOrder_2 : decode cX9_findOrder 2 = .ok (.iconst 0, 1) := by decide +kernel
theorem dX9_findOrder_3 : decode cX9_findOrder 3 = .ok (.istore_n 2, 1) := by decide +kernel
theorem dX9_findOrder_4 : decode cX9_findOrder 4 = .ok (.iload_n 2, 1) := by decide +kernel
theorem dX9_findOrder_5 : decode cX9_findOrder 5 = .ok (.aload_n 0, 1) := by decide +kernel
theorem dX9_findOrder_6 : decode cX9_findOrder 6 = .ok (.getfield 76, 3) := by decide +kernel
theorem dX9_findOrder_9 : decode cX9_findOrder 9 = .ok (.if_icmp .ge 87, 3) := by decide +kernel
theorem dX9_findOrder_12 : decode cX9_findOrder 12 = .ok (.aload_n 0, 1) := by decide +kernel
theorem dX9_findOrder_13 : decode cX9_findOrder 13 = .ok (.aload_n 0, 1) := by decide +kernel
theorem dX9_findOrder_14 : decode cX9_findOrder 14 = .ok (.getfield 7, 3) := by decide +kernel
theorem dX9_findOrder_17 : decode cX9_findOrder 17 = .ok (.iload_n 2, 1) := by decide +kernel
theorem dX9_findOrder_18 : decode cX9_findOrder 18 = .ok (.laload, 1) := by decide +kernel
theorem dX9_findOrder_19 : decode cX9_findOrder 19 = .ok (.invokevirtual 94, 3) := by decide +kernel
theorem dX9_findOrder_22 : decode cX9_findOrder 22 = .ok (.ifCond .eq 68, 3) := by decide +kernel
theorem dX9_findOrder_25 : decode cX9_findOrder 25 = .ok (.iload_n 1, 1) := by decide +kernel
theorem dX9_findOrder_26 : decode cX9_findOrder 26 = .ok (.istore_n 3, 1) := by decide +kernel
theorem dX9_findOrder_27 : decode cX9_findOrder 27 = .ok (.iload_n 3, 1) := by decide +kernel
theorem dX9_findOrder_28 : decode cX9_findOrder 28 = .ok (.ifCond .le 52, 3) := by decide +kernel
theorem dX9_findOrder_31 : decode cX9_findOrder 31 = .ok (.aload_n 0, 1) := by decide +kernel
theorem dX9_findOrder_32 : decode cX9_findOrder 32 = .ok (.getfield 7, 3) := by decide +kernel
theorem dX9_findOrder_35 : decode cX9_findOrder 35 = .ok (.aload_n 0, 1) := by decide +kernel
theorem dX9_findOrder_36 : decode cX9_findOrder 36 = .ok (.getfield 45, 3) := by decide +kernel
theorem dX9_findOrder_39 : decode cX9_findOrder 39 = .ok (.iload_n 3, 1) := by decide +kernel
theorem dX9_findOrder_40 : decode cX9_findOrder 40 = .ok (.iconst 1, 1) := by decide +kernel
theorem dX9_findOrder_41 : decode cX9_findOrder 41 = .ok (.isub, 1) := by decide +kernel
theorem dX9_findOrder_42 : decode cX9_findOrder 42 = .ok (.iaload, 1) := by decide +kernel
theorem dX9_findOrder_43 : decode cX9_findOrder 43 = .ok (.laload, 1) := by decide +kernel
theorem dX9_findOrder_44 : decode cX9_findOrder 44 = .ok (.invokestatic 101, 3) := by decide +kernel
theorem dX9_findOrder_47 : decode cX9_findOrder 47 = .ok (.aload_n 0, 1) := by decide +kernel
theorem dX9_findOrder_48 : decode cX9_findOrder 48 = .ok (.getfield 7, 3) := by decide +kernel
theorem dX9_findOrder_51 : decode cX9_findOrder 51 = .ok (.iload_n 2, 1) := by decide +kernel
theorem dX9_findOrder_52 : decode cX9_findOrder 52 = .ok (.laload, 1) := by decide +kernel
theorem dX9_findOrder_53 : decode cX9_findOrder 53 = .ok (.invokestatic 101, 3) := by decide +kernel
theorem dX9_findOrder_56 : decode cX9_findOrder 56 = .ok (.lcmp, 1) := by decide +kernel
theorem dX9_findOrder_57 : decode cX9_findOrder 57 = .ok (.ifCond .le 23, 3) := by decide +kernel
theorem dX9_findOrder_60 : decode cX9_findOrder 60 = .ok (.aload_n 0, 1) := by decide +kernel
theorem dX9_findOrder_61 : decode cX9_findOrder 61 = .ok (.getfield 45, 3) := by decide +kernel
theorem dX9_findOrder_64 : decode cX9_findOrder 64 = .ok (.iload_n 3, 1) := by decide +kernel
theorem dX9_findOrder_65 : decode cX9_findOrder 65 = .ok (.aload_n 0, 1) := by decide +kernel
theorem dX9_findOrder_66 : decode cX9_findOrder 66 = .ok (.getfield 45, 3) := by decide +kernel
theorem dX9_findOrder_69 : decode cX9_findOrder 69 = .ok (.iload_n 3, 1) := by decide +kernel
theorem dX9_findOrder_70 : decode cX9_findOrder 70 = .ok (.iconst 1, 1) := by decide +kernel
theorem dX9_findOrder_71 : decode cX9_findOrder 71 = .ok (.isub, 1) := by decide +kernel
theorem dX9_findOrder_72 : decode cX9_findOrder 72 = .ok (.iaload, 1) := by decide +kernel
theorem dX9_findOrder_73 : decode cX9_findOrder 73 = .ok (.iastore, 1) := by decide +kernel
theorem dX9_findOrder_74 : decode cX9_findOrder 74 = .ok (.iinc 3 (-1), 3) := by decide +kernel
theorem dX9_findOrder_77 : decode cX9_findOrder 77 = .ok (.goto (-50), 3) := by decide +kernel
theorem dX9_findOrder_80 : decode cX9_findOrder 80 = .ok (.aload_n 0, 1) := by decide +kernel
theorem dX9_findOrder_81 : decode cX9_findOrder 81 = .ok (.getfield 45, 3) := by decide +kernel
theorem dX9_findOrder_84 : decode cX9_findOrder 84 = .ok (.iload_n 3, 1) := by decide +kernel
theorem dX9_findOrder_85 : decode cX9_findOrder 85 = .ok (.iload_n 2, 1) := by decide +kernel
theorem dX9_findOrder_86 : decode cX9_findOrder 86 = .ok (.iastore, 1) := by decide +kernel
theorem dX9_findOrder_87 : decode cX9_findOrder 87 = .ok (.iinc 1 1, 3) := by decide +kernel
theorem dX9_findOrder_90 : decode cX9_findOrder 90 = .ok (.iinc 2 1, 3) := by decide +kernel
theorem dX9_findOrder_93 : decode cX9_findOrder 93 = .ok (.goto (-89), 3) := by decide +kernel
theorem dX9_findOrder_96 : decode cX9_findOrder 96 = .ok (.iload_n 1, 1) := by decide +kernel
theorem dX9_findOrder_97 : decode cX9_findOrder 97 = .ok (.ireturn, 1) := by decide +kernel
set_option maxRecDepth 20000 in
theorem ggX9_canCut_X9_addLetters : GoodIn wsX9_canCut wsX9_addLetters := goodIn_r _ [7, 8, 1, 9, 10, 11, 12, 13, 14, 15, 16, 17, 18, 19, 20, 21, 22, 23, 24, 25, 26, 27, 28] (by decide +kernel) (by decide +kernel)
set_option maxRecDepth 20000 in
theorem gX9_canCut_X9_addLetters : GoodIn wsX9_canCut (wsV RX9 180 RX9 yX9_addLetters wsX9_addLetters) := goodIn_app (goodIn_of _ (by decide +kernel)) ggX9_canCut_X9_addLetters
theorem dX9_canCut_0 : decode cX9_canCut 0 = .ok (.iconst 1, 1) := by decide +kernel
theorem dX9_canCut_1 : decode cX9_canCut 1 = .ok (.istore 4, 2) := by decide +kernel
theorem dX9_canCut_3 : decode cX9_canCut 3 = .ok (.iload 4, 2) := by decide +kernel
theorem dX9_canCut_5 : decode cX9_canCut 5 = .ok (.bipush 26, 2) := by decide +kernel
theorem dX9_canCut_7 : decode cX9_canCut 7 = .ok (.if_icmp .gt 17, 3) := by decide +kernel
theorem dX9_canCut_10 : decode cX9_canCut 10 = .ok (.aload_n 0, 1) := by decide +kernel
theorem dX9_canCut_11 : decode cX9_canCut 11 = .ok (.getfield 42, 3) := by decide +kernel
theorem dX9_canCut_14 : decode cX9_canCut 14 = .ok (.iload 4, 2) := by decide +kernel
theorem dX9_canCut_16 : decode cX9_canCut 16 = .ok (.iconst 0, 1) := by decide +kernel
theorem dX9_canCut_17 : decode cX9_canCut 17 = .ok (.iastore, 1) := by decide +kernel
theorem dX9_canCut_18 : decode cX9_canCut 18 = .ok (.iinc 4 1, 3) := by decide +kernel
theorem dX9_canCut_21 : decode cX9_canCut 21 = .ok (.goto (-18), 3) := by decide +kernel
theorem dX9_canCut_24 : decode cX9_canCut 24 = .ok (.aload_n 0, 1) := by decide +kernel
theorem dX9_canCut_25 : decode cX9_canCut 25 = .ok (.iload_n 1, 1) := by decide +kernel
theorem dX9_canCut_26 : decode cX9_canCut 26 = .ok (.invokevirtual 180, 3) := by decide +kernel
theorem dX9_canCut_29 : decode cX9_canCut 29 = .ok (.aload_n 0, 1) := by decide +kernel
theorem dX9_canCut_30 : decode cX9_canCut 30 = .ok (.iload_n 2, 1) := by decide +kernel
theorem dX9_canCut_31 : decode cX9_canCut 31 = .ok (.invokevirtual 180, 3) := by decide +kernel
theorem dX9_canCut_34 : decode cX9_canCut 34 = .ok (.aload_n 0, 1) := by decide +kernel
theorem dX9_canCut_35 : decode cX9_canCut 35 = .ok (.iload_n 3, 1) := by decide +kernel
theorem dX9_canCut_36 : decode cX9_canCut 36 = .ok (.invokevirtual 180, 3) := by decide +kernel
theorem dX9_canCut_39 : decode cX9_canCut 39 = .ok (.iconst 1, 1) := by decide +kernel
theorem dX9_canCut_40 : decode cX9_canCut 40 = .ok (.istore 4, 2) := by decide +kernel
theorem dX9_canCut_42 : decode cX9_canCut 42 = .ok (.iconst 1, 1) := by decide +kernel
theorem dX9_canCut_43 : decode cX9_canCut 43 = .ok (.istore 5, 2) := by decide +kernel
theorem dX9_canCut_45 : decode cX9_canCut 45 = .ok (.iload 5, 2) := by decide +kernel
theorem dX9_canCut_47 : decode cX9_canCut 47 = .ok (.bipush 26, 2) := by decide +kernel
theorem dX9_canCut_49 : decode cX9_canCut 49 = .ok (.if_icmp .gt 38, 3) := by decide +kernel
theorem dX9_canCut_52 : decode cX9_canCut 52 = .ok (.iload 4, 2) := by decide +kernel
theorem dX9_canCut_54 : decode cX9_canCut 54 = .ok (.ifCond .eq 24, 3) := by decide +kernel
theorem dX9_canCut_57 : decode cX9_canCut 57 = .ok (.aload_n 0, 1) := by decide +kernel
theorem dX9_canCut_58 : decode cX9_canCut 58 = .ok (.getfield 42, 3) := by decide +kernel
theorem dX9_canCut_61 : decode cX9_canCut 61 = .ok (.iload 5, 2) := by decide +kernel
theorem dX9_canCut_63 : decode cX9_canCut 63 = .ok (.iaload, 1) := by decide +kernel
theorem dX9_canCut_64 : decode cX9_canCut 64 = .ok (.aload_n 0, 1) := by decide +kernel
theorem dX9_canCut_65 : decode cX9_canCut 65 = .ok (.getfield 39, 3) := by decide +kernel
theorem dX9_canCut_68 : decode cX9_canCut 68 = .ok (.iload 5, 2) := by decide +kernel
theorem dX9_canCut_70 : decode cX9_canCut 70 = .ok (.iaload, 1) := by decide +kernel
theorem dX9_canCut_71 : decode cX9_canCut 71 = .ok (.if_icmp .gt 7, 3) := by decide +kernel
theorem dX9_canCut_74 : decode cX9_canCut 74 = .ok (.iconst 1, 1) := by decide +kernel
theorem dX9_canCut_75 : decode cX9_canCut 75 = .ok (.goto 4, 3) := by decide +kernel
theorem dX9_canCut_78 : decode cX9_canCut 78 = .ok (.iconst 0, 1) := by decide +kernel
theorem dX9_canCut_79 : decode cX9_canCut 79 = .ok (.istore 4, 2) := by decide +kernel
theorem dX9_canCut_81 : decode cX9_canCut 81 = .ok (.iinc 5 1, 3) := by decide +kernel
theorem dX9_canCut_84 : decode cX9_canCut 84 = .ok (.goto (-39), 3) := by decide +kernel
theorem dX9_canCut_87 : decode cX9_canCut 87 = .ok (.iload 4, 2) := by decide +kernel
theorem dX9_canCut_89 : decode cX9_canCut 89 = .ok (.ireturn, 1) := by decide +kernel
theorem dX9_addLetters_0 : decode cX9_addLetters 0 = .ok (.iload_n 1, 1) := by decide +kernel
theorem dX9_addLetters_1 : decode cX9_addLetters 1 = .ok (.iconst (-1), 1) := by decide +kernel
theorem dX9_addLetters_2 : decode cX9_addLetters 2 = .ok (.if_icmp .ne 7, 3) := by decide +kernel
theorem dX9_addLetters_5 : decode cX9_addLetters 5 = .ok (.lconst 0, 1) := by decide +kernel
theorem dX9_addLetters_6 : decode cX9_addLetters 6 = .ok (.goto 9, 3) := by decide +kernel
theorem dX9_addLetters_9 : decode cX9_addLetters 9 = .ok (.aload_n 0, 1) := by decide +kernel
theorem dX9_addLetters_10 : decode cX9_addLetters 10 = .ok (.getfield 7, 3) := by decide +kernel
theorem dX9_addLetters_13 : decode cX9_addLetters 13 = .ok (.iload_n 1, 1) := by decide +kernel
theorem dX9_addLetters_14 : decode cX9_addLetters 14 = .ok (.laload, 1) := by decide +kernel
theorem dX9_addLetters_15 : decode cX9_addLetters 15 = .ok (.lstore_n 2, 1) := by decide +kernel
theorem dX9_addLetters_16 : decode cX9_addLetters 16 = .ok (.lload_n 2, 1) := by decide +kernel
theorem dX9_addLetters_17 : decode cX9_addLetters 17 = .ok (.lconst 0, 1) := by decide +kernel
theorem dX9_addLetters_18 : decode cX9_addLetters 18 = .ok (.lcmp, 1) := by decide +kernel
theorem dX9_addLetters_19 : decode cX9_addLetters 19 = .ok (.ifCond .le 25, 3) := by decide +kernel
theorem dX9_addLetters_22 : decode cX9_addLetters 22 = .ok (.aload_n 0, 1) := by decide +kernel
theorem dX9_addLetters_23 : decode cX9_addLetters 23 = .ok (.getfield 42, 3) := by decide +kernel
theorem dX9_addLetters_26 : decode cX9_addLetters 26 = .ok (.lload_n 2, 1) := by decide +kernel
theorem dX9_addLetters_27 : decode cX9_addLetters 27 = .ok (.ldc2_w 63, 3) := by decide +kernel
theorem dX9_addLetters_30 : decode cX9_addLetters 30 = .ok (.land, 1) := by decide +kernel
theorem dX9_addLetters_31 : decode cX9_addLetters 31 = .ok (.l2i, 1) := by decide +kernel
theorem dX9_addLetters_32 : decode cX9_addLetters 32 = .ok (.dup2, 1) := by decide +kernel
theorem dX9_addLetters_33 : decode cX9_addLetters 33 = .ok (.iaload, 1) := by decide +kernel
theorem dX9_addLetters_34 : decode cX9_addLetters 34 = .ok (.iconst 1, 1) := by decide +kernel
theorem dX9_addLetters_35 : decode cX9_addLetters 35 = .ok (.iadd, 1) := by decide +kernel
theorem dX9_addLetters_36 : decode cX9_addLetters 36 = .ok (.iastore, 1) := by decide +kernel
theorem dX9_addLetters_37 : decode cX9_addLetters 37 = .ok (.lload_n 2, 1) := by decide +kernel
theorem dX9_addLetters_38 : decode cX9_addLetters 38 = .ok (.iconst 5, 1) := by decide +kernel
theorem dX9_addLetters_39 : decode cX9_addLetters 39 = .ok (.lshr, 1) := by decide +kernel
theorem dX9_addLetters_40 : decode cX9_addLetters 40 = .ok (.lstore_n 2, 1) := by decide +kernel
theorem dX9_addLetters_41 : decode cX9_addLetters 41 = .ok (.goto (-25), 3) := by decide +kernel
theorem dX9_addLetters_44 : decode cX9_addLetters 44 = .ok (.return_, 1) := by decide +kernel
set_option maxRecDepth 20000 in
theorem ggX9_lengthAt_X9_lengthOf : GoodIn wsX9_lengthAt wsX9_lengthOf := goodIn_r _ [5] (by decide +kernel) (by decide +kernel)
set_option maxRecDepth 20000 in
theorem gX9_lengthAt_X9_lengthOf : GoodIn wsX9_lengthAt (va_wsS RX9 59 yX9_lengthOf wsX9_lengthOf) := goodIn_app (goodIn_of _ (by decide +kernel)) ggX9_lengthAt_X9_lengthOf
theorem dX9_lengthAt_0 : decode cX9_lengthAt 0 = .ok (.iload_n 1, 1) := by decide +kernel
theorem dX9_lengthAt_1 : decode cX9_lengthAt 1 = .ok (.iconst (-1), 1) := by decide +kernel
theorem dX9_lengthAt_2 : decode cX9_lengthAt 2 = .ok (.if_icmp .ne 7, 3) := by decide +kernel
theorem dX9_lengthAt_5 : decode cX9_lengthAt 5 = .ok (.iconst 0, 1) := by decide +kernel
theorem dX9_lengthAt_6 : decode cX9_lengthAt 6 = .ok (.goto 12, 3) := by decide +kernel
theorem dX9_lengthAt_9 : decode cX9_lengthAt 9 = .ok (.aload_n 0, 1) := by decide +kernel
theorem dX9_lengthAt_10 : decode cX9_lengthAt 10 = .ok (.getfield 7, 3) := by decide +kernel
theorem dX9_lengthAt_13 : decode cX9_lengthAt 13 = .ok (.iload_n 1, 1) := by decide +kernel
theorem dX9_lengthAt_14 : decode cX9_lengthAt 14 = .ok (.laload, 1) := by decide +kernel
theorem dX9_lengthAt_15 : decode cX9_lengthAt 15 = .ok (.invokestatic 59, 3) := by decide +kernel
theorem dX9_lengthAt_18 : decode cX9_lengthAt 18 = .ok (.ireturn, 1) := by decide +kernel
set_option maxRecDepth 20000 in
theorem ggX9_keep_X9_lengthAt : GoodIn wsX9_keep wsX9_lengthAt := goodIn_r _ [8, 9, 10, 11, 7, 12, 24, 25, 26, 27, 28, 29, 30, 31, 32, 33, 34, 35, 36, 37, 38, 39, 40, 41, 42] (by decide +kernel) (by decide +kernel)
set_option maxRecDepth 20000 in
theorem gX9_keep_X9_lengthAt : GoodIn wsX9_keep (wsV RX9 184 RX9 yX9_lengthAt wsX9_lengthAt) := goodIn_app (goodIn_of _ (by decide +kernel)) ggX9_keep_X9_lengthAt
set_option maxRecDepth 20000 in
theorem ggX9_keep_X9_canCut : GoodIn wsX9_keep wsX9_canCut := goodIn_r _ [16, 17, 18, 19, 20, 21, 7, 22, 9, 23, 24, 25, 26, 27, 28, 29, 30, 31, 32, 33, 34, 35, 36, 37, 38, 39, 40, 41, 42] (by decide +kernel) (by decide +kernel)
set_option maxRecDepth 20000 in
theorem gX9_keep_X9_canCut : GoodIn wsX9_keep (wsV RX9 187 RX9 yX9_canCut wsX9_canCut) := goodIn_app (goodIn_of _ (by decide +kernel)) ggX9_keep_X9_canCut
theorem dX9_keep_0 : decode cX9_keep 0 = .ok (.aload_n 0, 1) := by decide +kernel
theorem dX9_keep_1 : decode cX9_keep 1 = .ok (.iload_n 2, 1) := by decide +kernel
theorem dX9_keep_2 : decode cX9_keep 2 = .ok (.invokevirtual 184, 3) := by decide +kernel
theorem dX9_keep_5 : decode cX9_keep 5 = .ok (.aload_n 0, 1) := by decide +kernel
theorem dX9_keep_6 : decode cX9_keep 6 = .ok (.iload_n 3, 1) := by decide +kernel
theorem dX9_keep_7 : decode cX9_keep 7 = .ok (.invokevirtual 184, 3) := by decide +kernel
theorem dX9_keep_10 : decode cX9_keep 10 = .ok (.iadd, 1) := by decide +kernel
theorem dX9_keep_11 : decode cX9_keep 11 = .ok (.aload_n 0, 1) := by decide +kernel
theorem dX9_keep_12 : decode cX9_keep 12 = .ok (.iload 4, 2) := by decide +kernel
theorem dX9_keep_14 : decode cX9_keep 14 = .ok (.invokevirtual 184, 3) := by decide +kernel
theorem dX9_keep_17 : decode cX9_keep 17 = .ok (.iadd, 1) := by decide +kernel
theorem dX9_keep_18 : decode cX9_keep 18 = .ok (.istore 5, 2) := by decide +kernel
theorem dX9_keep_20 : decode cX9_keep 20 = .ok (.iload 5, 2) := by decide +kernel
theorem dX9_keep_22 : decode cX9_keep 22 = .ok (.iload_n 1, 1) := by decide +kernel
theorem dX9_keep_23 : decode cX9_keep 23 = .ok (.if_icmp .le 23, 3) := by decide +kernel
theorem dX9_keep_26 : decode cX9_keep 26 = .ok (.iload 5, 2) := by decide +kernel
theorem dX9_keep_28 : decode cX9_keep 28 = .ok (.aload_n 0, 1) := by decide +kernel
theorem dX9_keep_29 : decode cX9_keep 29 = .ok (.getfield 69, 3) := by decide +kernel
theorem dX9_keep_32 : decode cX9_keep 32 = .ok (.if_icmp .gt 14, 3) := by decide +kernel
theorem dX9_keep_35 : decode cX9_keep 35 = .ok (.aload_n 0, 1) := by decide +kernel
theorem dX9_keep_36 : decode cX9_keep 36 = .ok (.iload_n 2, 1) := by decide +kernel
theorem dX9_keep_37 : decode cX9_keep 37 = .ok (.iload_n 3, 1) := by decide +kernel
theorem dX9_keep_38 : decode cX9_keep 38 = .ok (.iload 4, 2) := by decide +kernel
theorem dX9_keep_40 : decode cX9_keep 40 = .ok (.invokevirtual 187, 3) := by decide +kernel
theorem dX9_keep_43 : decode cX9_keep 43 = .ok (.ifCond .ne 5, 3) := by decide +kernel
theorem dX9_keep_46 : decode cX9_keep 46 = .ok (.iload_n 1, 1) := by decide +kernel
theorem dX9_keep_47 : decode cX9_keep 47 = .ok (.ireturn, 1) := by decide +kernel
theorem dX9_keep_48 : decode cX9_keep 48 = .ok (.aload_n 0, 1) := by decide +kernel
theorem dX9_keep_49 : decode cX9_keep 49 = .ok (.getfield 48, 3) := by decide +kernel
theorem dX9_keep_52 : decode cX9_keep 52 = .ok (.iconst 0, 1) := by decide +kernel
theorem dX9_keep_53 : decode cX9_keep 53 = .ok (.iload_n 2, 1) := by decide +kernel
theorem dX9_keep_54 : decode cX9_keep 54 = .ok (.iastore, 1) := by decide +kernel
theorem dX9_keep_55 : decode cX9_keep 55 = .ok (.aload_n 0, 1) := by decide +kernel
theorem dX9_keep_56 : decode cX9_keep 56 = .ok (.getfield 48, 3) := by decide +kernel
theorem dX9_keep_59 : decode cX9_keep 59 = .ok (.iconst 1, 1) := by decide +kernel
theorem dX9_keep_60 : decode cX9_keep 60 = .ok (.iload_n 3, 1) := by decide +kernel
theorem dX9_keep_61 : decode cX9_keep 61 = .ok (.iastore, 1) := by decide +kernel
theorem dX9_keep_62 : decode cX9_keep 62 = .ok (.aload_n 0, 1) := by decide +kernel
theorem dX9_keep_63 : decode cX9_keep 63 = .ok (.getfield 48, 3) := by decide +kernel
theorem dX9_keep_66 : decode cX9_keep 66 = .ok (.iconst 2, 1) := by decide +kernel
theorem dX9_keep_67 : decode cX9_keep 67 = .ok (.iload 4, 2) := by decide +kernel
theorem dX9_keep_69 : decode cX9_keep 69 = .ok (.iastore, 1) := by decide +kernel
theorem dX9_keep_70 : decode cX9_keep 70 = .ok (.aload_n 0, 1) := by decide +kernel
theorem dX9_keep_71 : decode cX9_keep 71 = .ok (.iload_n 2, 1) := by decide +kernel
theorem dX9_keep_72 : decode cX9_keep 72 = .ok (.iconst (-1), 1) := by decide +kernel
theorem dX9_keep_73 : decode cX9_keep 73 = .ok (.if_icmp .ne 7, 3) := by decide +kernel
theorem dX9_keep_76 : decode cX9_keep 76 = .ok (.iconst 0, 1) := by decide +kernel
theorem dX9_keep_77 : decode cX9_keep 77 = .ok (.goto 4, 3) := by decide +kernel
theorem dX9_keep_80 : decode cX9_keep 80 = .ok (.iconst 1, 1) := by decide +kernel
theorem dX9_keep_81 : decode cX9_keep 81 = .ok (.iload_n 3, 1) := by decide +kernel
theorem dX9_keep_82 : decode cX9_keep 82 = .ok (.iconst (-1), 1) := by decide +kernel
theorem dX9_keep_83 : decode cX9_keep 83 = .ok (.if_icmp .ne 7, 3) := by decide +kernel
theorem dX9_keep_86 : decode cX9_keep 86 = .ok (.iconst 0, 1) := by decide +kernel
theorem dX9_keep_87 : decode cX9_keep 87 = .ok (.goto 4, 3) := by decide +kernel
theorem dX9_keep_90 : decode cX9_keep 90 = .ok (.iconst 1, 1) := by decide +kernel
theorem dX9_keep_91 : decode cX9_keep 91 = .ok (.iadd, 1) := by decide +kernel
theorem dX9_keep_92 : decode cX9_keep 92 = .ok (.iload 4, 2) := by decide +kernel
theorem dX9_keep_94 : decode cX9_keep 94 = .ok (.iconst (-1), 1) := by decide +kernel
theorem dX9_keep_95 : decode cX9_keep 95 = .ok (.if_icmp .ne 7, 3) := by decide +kernel
theorem dX9_keep_98 : decode cX9_keep 98 = .ok (.iconst 0, 1) := by decide +kernel
theorem dX9_keep_99 : decode cX9_keep 99 = .ok (.goto 4, 3) := by decide +kernel
theorem dX9_keep_102 : decode cX9_keep 102 = .ok (.iconst 1, 1) := by decide +kernel
theorem dX9_keep_103 : decode cX9_keep 103 = .ok (.iadd, 1) := by decide +kernel
theorem dX9_keep_104 : decode cX9_keep 104 = .ok (.putfield 190, 3) := by decide +kernel
theorem dX9_keep_107 : decode cX9_keep 107 = .ok (.iload 5, 2) := by decide +kernel
theorem dX9_keep_109 : decode cX9_keep 109 = .ok (.ireturn, 1) := by decide +kernel
set_option maxRecDepth 20000 in
theorem ggX9_findPlan_X9_spell : GoodIn wsX9_findPlan wsX9_spell := goodIn_r _ [8, 3, 9, 10, 11, 12, 7, 13, 49, 50, 51, 52, 53, 54, 55, 56, 57, 58, 59, 60, 61, 62, 63, 64, 65, 66, 67] (by decide +kernel) (by decide +kernel)
set_option maxRecDepth 20000 in
theorem gX9_findPlan_X9_spell : GoodIn wsX9_findPlan (wsV RX9 109 RX9 yX9_spell wsX9_spell) := goodIn_app (goodIn_of _ (by decide +kernel)) ggX9_findPlan_X9_spell
set_option maxRecDepth 20000 in
theorem ggX9_findPlan_X9_findOrder : GoodIn wsX9_findPlan wsX9_findOrder := goodIn_r _ [17, 18, 19, 2, 20, 21, 22, 7, 23, 24, 9, 25, 26, 27, 28, 29, 30, 11, 12, 13, 49, 50, 51, 52, 53, 54, 55, 56, 57, 58, 59, 60, 61, 62, 63, 64, 65, 66, 67] (by decide +kernel) (by decide +kernel)
set_option maxRecDepth 20000 in
theorem gX9_findPlan_X9_findOrder : GoodIn wsX9_findPlan (wsV RX9 193 RX9 yX9_findOrder wsX9_findOrder) := goodIn_app (goodIn_of _ (by decide +kernel)) ggX9_findPlan_X9_findOrder
set_option maxRecDepth 20000 in
theorem ggX9_findPlan_X9_keep : GoodIn wsX9_findPlan wsX9_keep := goodIn_r _ [34, 3, 35, 1, 36, 37, 38, 7, 39, 19, 11, 12, 13, 40, 41, 42, 43, 44, 9, 45, 46, 47, 48, 24, 49, 50, 51, 52, 53, 54, 55, 56, 57, 58, 59, 60, 61, 62, 63, 64, 65, 66, 67] (by decide +kernel) (by decide +kernel)
set_option maxRecDepth 20000 in
theorem gX9_findPlan_X9_keep : GoodIn wsX9_findPlan (wsV RX9 196 RX9 yX9_keep wsX9_keep) := goodIn_app (goodIn_of _ (by decide +kernel)) ggX9_findPlan_X9_keep
theorem dX9_findPlan_0 : decode cX9_findPlan 0 = .ok (.aload_n 0, 1) := by decide +kernel
theorem dX9_findPlan_1 : decode cX9_findPlan 1 = .ok (.lload_n 1, 1) := by decide +kernel
theorem dX9_findPlan_2 : decode cX9_findPlan 2 = .ok (.invokevirtual 109, 3) := by decide +kernel
theorem dX9_findPlan_5 : decode cX9_findPlan 5 = .ok (.aload_n 0, 1) := by decide +kernel
theorem dX9_findPlan_6 : decode cX9_findPlan 6 = .ok (.invokevirtual 193, 3) := by decide +kernel
theorem dX9_findPlan_9 : decode cX9_findPlan 9 = .ok (.istore 4, 2) := by decide +kernel
theorem dX9_findPlan_11 : decode cX9_findPlan 11 = .ok (.aload_n 0, 1) := by decide +kernel
theorem dX9_findPlan_12 : decode cX9_findPlan 12 = .ok (.iconst 0, 1) := by decide +kernel
theorem dX9_findPlan_13 : decode cX9_findPlan 13 = .ok (.putfield 190, 3) := by decide +kernel
theorem dX9_findPlan_16 : decode cX9_findPlan 16 = .ok (.iconst 0, 1) := by decide +kernel
theorem dX9_findPlan_17 : decode cX9_findPlan 17 = .ok (.istore 5, 2) := by decide +kernel
theorem dX9_findPlan_19 : decode cX9_findPlan 19 = .ok (.iconst 0, 1) := by decide +kernel
theorem dX9_findPlan_20 : decode cX9_findPlan 20 = .ok (.istore 6, 2) := by decide +kernel
theorem dX9_findPlan_22 : decode cX9_findPlan 22 = .ok (.iload 6, 2) := by decide +kernel
theorem dX9_findPlan_24 : decode cX9_findPlan 24 = .ok (.iload 4, 2) := by decide +kernel
theorem dX9_findPlan_26 : decode cX9_findPlan 26 = .ok (.if_icmp .ge 26, 3) := by decide +kernel
theorem dX9_findPlan_29 : decode cX9_findPlan 29 = .ok (.aload_n 0, 1) := by decide +kernel
theorem dX9_findPlan_30 : decode cX9_findPlan 30 = .ok (.iload 5, 2) := by decide +kernel
theorem dX9_findPlan_32 : decode cX9_findPlan 32 = .ok (.aload_n 0, 1) := by decide +kernel
theorem dX9_findPlan_33 : decode cX9_findPlan 33 = .ok (.getfield 45, 3) := by decide +kernel
theorem dX9_findPlan_36 : decode cX9_findPlan 36 = .ok (.iload 6, 2) := by decide +kernel
theorem dX9_findPlan_38 : decode cX9_findPlan 38 = .ok (.iaload, 1) := by decide +kernel
theorem dX9_findPlan_39 : decode cX9_findPlan 39 = .ok (.iconst (-1), 1) := by decide +kernel
theorem dX9_findPlan_40 : decode cX9_findPlan 40 = .ok (.iconst (-1), 1) := by decide +kernel
theorem dX9_findPlan_41 : decode cX9_findPlan 41 = .ok (.invokevirtual 196, 3) := by decide +kernel
theorem dX9_findPlan_44 : decode cX9_findPlan 44 = .ok (.istore 5, 2) := by decide +kernel
theorem dX9_findPlan_46 : decode cX9_findPlan 46 = .ok (.iinc 6 1, 3) := by decide +kernel
theorem dX9_findPlan_49 : decode cX9_findPlan 49 = .ok (.goto (-27), 3) := by decide +kernel
theorem dX9_findPlan_52 : decode cX9_findPlan 52 = .ok (.iconst 0, 1) := by decide +kernel
theorem dX9_findPlan_53 : decode cX9_findPlan 53 = .ok (.istore 6, 2) := by decide +kernel
theorem dX9_findPlan_55 : decode cX9_findPlan 55 = .ok (.iload 6, 2) := by decide +kernel
theorem dX9_findPlan_57 : decode cX9_findPlan 57 = .ok (.iload 4, 2) := by decide +kernel
theorem dX9_findPlan_59 : decode cX9_findPlan 59 = .ok (.if_icmp .ge 54, 3) := by decide +kernel
theorem dX9_findPlan_62 : decode cX9_findPlan 62 = .ok (.iload_n 3, 1) := by decide +kernel
theorem dX9_findPlan_63 : decode cX9_findPlan 63 = .ok (.iconst 1, 1) := by decide +kernel
theorem dX9_findPlan_64 : decode cX9_findPlan 64 = .ok (.if_icmp .le 49, 3) := by decide +kernel
theorem dX9_findPlan_67 : decode cX9_findPlan 67 = .ok (.iload 6, 2) := by decide +kernel
theorem dX9_findPlan_69 : decode cX9_findPlan 69 = .ok (.istore 7, 2) := by decide +kernel
theorem dX9_findPlan_71 : decode cX9_findPlan 71 = .ok (.iload 7, 2) := by decide +kernel
theorem dX9_findPlan_73 : decode cX9_findPlan 73 = .ok (.iload 4, 2) := by decide +kernel
theorem dX9_findPlan_75 : decode cX9_findPlan 75 = .ok (.if_icmp .ge 32, 3) := by decide +kernel
theorem dX9_findPlan_78 : decode cX9_findPlan 78 = .ok (.aload_n 0, 1) := by decide +kernel
theorem dX9_findPlan_79 : decode cX9_findPlan 79 = .ok (.iload 5, 2) := by decide +kernel
theorem dX9_findPlan_81 : decode cX9_findPlan 81 = .ok (.aload_n 0, 1) := by decide +kernel
theorem dX9_findPlan_82 : decode cX9_findPlan 82 = .ok (.getfield 45, 3) := by decide +kernel
theorem dX9_findPlan_85 : decode cX9_findPlan 85 = .ok (.iload 6, 2) := by decide +kernel
theorem dX9_findPlan_87 : decode cX9_findPlan 87 = .ok (.iaload, 1) := by decide +kernel
theorem dX9_findPlan_88 : decode cX9_findPlan 88 = .ok (.aload_n 0, 1) := by decide +kernel
theorem dX9_findPlan_89 : decode cX9_findPlan 89 = .ok (.getfield 45, 3) := by decide +kernel
theorem dX9_findPlan_92 : decode cX9_findPlan 92 = .ok (.iload 7, 2) := by decide +kernel
theorem dX9_findPlan_94 : decode cX9_findPlan 94 = .ok (.iaload, 1) := by decide +kernel
theorem dX9_findPlan_95 : decode cX9_findPlan 95 = .ok (.iconst (-1), 1) := by decide +kernel
theorem dX9_findPlan_96 : decode cX9_findPlan 96 = .ok (.invokevirtual 196, 3) := by decide +kernel
theorem dX9_findPlan_99 : decode cX9_findPlan 99 = .ok (.istore 5, 2) := by decide +kernel
theorem dX9_findPlan_101 : decode cX9_findPlan 101 = .ok (.iinc 7 1, 3) := by decide +kernel
theorem dX9_findPlan_104 : decode cX9_findPlan 104 = .ok (.goto (-33), 3) := by decide +kernel
theorem dX9_findPlan_107 : decode cX9_findPlan 107 = .ok (.iinc 6 1, 3) := by decide +kernel
theorem dX9_findPlan_110 : decode cX9_findPlan 110 = .ok (.goto (-55), 3) := by decide +kernel
theorem dX9_findPlan_113 : decode cX9_findPlan 113 = .ok (.iconst 0, 1) := by decide +kernel
theorem dX9_findPlan_114 : decode cX9_findPlan 114 = .ok (.istore 6, 2) := by decide +kernel
theorem dX9_findPlan_116 : decode cX9_findPlan 116 = .ok (.iload 6, 2) := by decide +kernel
theorem dX9_findPlan_118 : decode cX9_findPlan 118 = .ok (.iload 4, 2) := by decide +kernel
theorem dX9_findPlan_120 : decode cX9_findPlan 120 = .ok (.if_icmp .ge 77, 3) := by decide +kernel
theorem dX9_findPlan_123 : decode cX9_findPlan 123 = .ok (.iload_n 3, 1) := by decide +kernel
theorem dX9_findPlan_124 : decode cX9_findPlan 124 = .ok (.iconst 2, 1) := by decide +kernel
theorem dX9_findPlan_125 : decode cX9_findPlan 125 = .ok (.if_icmp .le 72, 3) := by decide +kernel
theorem dX9_findPlan_128 : decode cX9_findPlan 128 = .ok (.iload 6, 2) := by decide +kernel
theorem dX9_findPlan_130 : decode cX9_findPlan 130 = .ok (.istore 7, 2) := by decide +kernel
theorem dX9_findPlan_132 : decode cX9_findPlan 132 = .ok (.iload 7, 2) := by decide +kernel
theorem dX9_findPlan_134 : decode cX9_findPlan 134 = .ok (.iload 4, 2) := by decide +kernel
theorem dX9_findPlan_136 : decode cX9_findPlan 136 = .ok (.if_icmp .ge 55, 3) := by decide +kernel
theorem dX9_findPlan_139 : decode cX9_findPlan 139 = .ok (.iload 7, 2) := by decide +kernel
theorem dX9_findPlan_141 : decode cX9_findPlan 141 = .ok (.istore 8, 2) := by decide +kernel
theorem dX9_findPlan_143 : decode cX9_findPlan 143 = .ok (.iload 8, 2) := by decide +kernel
theorem dX9_findPlan_145 : decode cX9_findPlan 145 = .ok (.iload 4, 2) := by decide +kernel
theorem dX9_findPlan_147 : decode cX9_findPlan 147 = .ok (.if_icmp .ge 38, 3) := by decide +kernel
theorem dX9_findPlan_150 : decode cX9_findPlan 150 = .ok (.aload_n 0, 1) := by decide +kernel
theorem dX9_findPlan_151 : decode cX9_findPlan 151 = .ok (.iload 5, 2) := by decide +kernel
theorem dX9_findPlan_153 : decode cX9_findPlan 153 = .ok (.aload_n 0, 1) := by decide +kernel
theorem dX9_findPlan_154 : decode cX9_findPlan 154 = .ok (.getfield 45, 3) := by decide +kernel
theorem dX9_findPlan_157 : decode cX9_findPlan 157 = .ok (.iload 6, 2) := by decide +kernel
theorem dX9_findPlan_159 : decode cX9_findPlan 159 = .ok (.iaload, 1) := by decide +kernel
theorem dX9_findPlan_160 : decode cX9_findPlan 160 = .ok (.aload_n 0, 1) := by decide +kernel
theorem dX9_findPlan_161 : decode cX9_findPlan 161 = .ok (.getfield 45, 3) := by decide +kernel
theorem dX9_findPlan_164 : decode cX9_findPlan 164 = .ok (.iload 7, 2) := by decide +kernel
theorem dX9_findPlan_166 : decode cX9_findPlan 166 = .ok (.iaload, 1) := by decide +kernel
theorem dX9_findPlan_167 : decode cX9_findPlan 167 = .ok (.aload_n 0, 1) := by decide +kernel
theorem dX9_findPlan_168 : decode cX9_findPlan 168 = .ok (.getfield 45, 3) := by decide +kernel
theorem dX9_findPlan_171 : decode cX9_findPlan 171 = .ok (.iload 8, 2) := by decide +kernel
theorem dX9_findPlan_173 : decode cX9_findPlan 173 = .ok (.iaload, 1) := by decide +kernel
theorem dX9_findPlan_174 : decode cX9_findPlan 174 = .ok (.invokevirtual 196, 3) := by decide +kernel
theorem dX9_findPlan_177 : decode cX9_findPlan 177 = .ok (.istore 5, 2) := by decide +kernel
theorem dX9_findPlan_179 : decode cX9_findPlan 179 = .ok (.iinc 8 1, 3) := by decide +kernel
theorem dX9_findPlan_182 : decode cX9_findPlan 182 = .ok (.goto (-39), 3) := by decide +kernel
theorem dX9_findPlan_185 : decode cX9_findPlan 185 = .ok (.iinc 7 1, 3) := by decide +kernel
theorem dX9_findPlan_188 : decode cX9_findPlan 188 = .ok (.goto (-56), 3) := by decide +kernel
theorem dX9_findPlan_191 : decode cX9_findPlan 191 = .ok (.iinc 6 1, 3) := by decide +kernel
theorem dX9_findPlan_194 : decode cX9_findPlan 194 = .ok (.goto (-78), 3) := by decide +kernel
theorem dX9_findPlan_197 : decode cX9_findPlan 197 = .ok (.aload_n 0, 1) := by decide +kernel
theorem dX9_findPlan_198 : decode cX9_findPlan 198 = .ok (.getfield 69, 3) := by decide +kernel
theorem dX9_findPlan_201 : decode cX9_findPlan 201 = .ok (.iload 5, 2) := by decide +kernel
theorem dX9_findPlan_203 : decode cX9_findPlan 203 = .ok (.isub, 1) := by decide +kernel
theorem dX9_findPlan_204 : decode cX9_findPlan 204 = .ok (.ireturn, 1) := by decide +kernel
set_option maxRecDepth 20000 in
theorem ggX9_isOrder_X9_isWord : GoodIn wsX9_isOrder wsX9_isWord := goodIn_r _ [4, 5, 6, 7, 3, 8, 9, 10, 11] (by decide +kernel) (by decide +kernel)
set_option maxRecDepth 20000 in
theorem gX9_isOrder_X9_isWord : GoodIn wsX9_isOrder (va_wsS RX9 79 yX9_isWord wsX9_isWord) := goodIn_app (goodIn_of _ (by decide +kernel)) ggX9_isOrder_X9_isWord
set_option maxRecDepth 20000 in
theorem ggX9_isOrder_X9_isWithin : GoodIn wsX9_isOrder wsX9_isWithin := goodIn_r _ [11] (by decide +kernel) (by decide +kernel)
set_option maxRecDepth 20000 in
theorem gX9_isOrder_X9_isWithin : GoodIn wsX9_isOrder (va_wsS RX9 65 yX9_isWithin wsX9_isWithin) := goodIn_app (goodIn_of _ (by decide +kernel)) ggX9_isOrder_X9_isWithin
set_option maxRecDepth 20000 in
theorem ggX9_isOrder_X9_isGood : GoodIn wsX9_isOrder wsX9_isGood := goodIn_r _ [15, 16, 17, 18, 19, 20, 21, 22, 23, 24, 25, 26, 27, 28, 29, 30, 31, 32, 33, 34, 35] (by decide +kernel) (by decide +kernel)
set_option maxRecDepth 20000 in
theorem gX9_isOrder_X9_isGood : GoodIn wsX9_isOrder (wsV RX9 83 RX9 yX9_isGood wsX9_isGood) := goodIn_app (goodIn_of _ (by decide +kernel)) ggX9_isOrder_X9_isGood
theorem dX9_isOrder_0 : decode cX9_isOrder 0 = .ok (.aload_n 0, 1) := by decide +kernel
theorem dX9_isOrder_1 : decode cX9_isOrder 1 = .ok (.lload_n 1, 1) := by decide +kernel
theorem dX9_isOrder_2 : decode cX9_isOrder 2 = .ok (.invokestatic 79, 3) := by decide +kernel
theorem dX9_isOrder_5 : decode cX9_isOrder 5 = .ok (.ifCond .eq 16, 3) := by decide +kernel
theorem dX9_isOrder_8 : decode cX9_isOrder 8 = .ok (.iload_n 3, 1) := by decide +kernel
theorem dX9_isOrder_9 : decode cX9_isOrder 9 = .ok (.iconst 1, 1) := by decide +kernel
theorem dX9_isOrder_10 : decode cX9_isOrder 10 = .ok (.iconst 3, 1) := by decide +kernel
theorem dX9_isOrder_11 : decode cX9_isOrder 11 = .ok (.invokestatic 65, 3) := by decide +kernel
theorem dX9_isOrder_14 : decode cX9_isOrder 14 = .ok (.ifCond .eq 7, 3) := by decide +kernel
theorem dX9_isOrder_17 : decode cX9_isOrder 17 = .ok (.iconst 1, 1) := by decide +kernel
theorem dX9_isOrder_18 : decode cX9_isOrder 18 = .ok (.goto 4, 3) := by decide +kernel
theorem dX9_isOrder_21 : decode cX9_isOrder 21 = .ok (.iconst 0, 1) := by decide +kernel
theorem dX9_isOrder_22 : decode cX9_isOrder 22 = .ok (.invokevirtual 83, 3) := by decide +kernel
theorem dX9_isOrder_25 : decode cX9_isOrder 25 = .ok (.ireturn, 1) := by decide +kernel
set_option maxRecDepth 20000 in
theorem ggX9_planLength_X9_isOrder : GoodIn wsX9_planLength wsX9_isOrder := goodIn_r _ [6, 7, 8, 5, 9, 10, 11, 12, 13, 14, 15, 16, 17, 18, 19, 20, 21, 68, 69, 70, 71, 72, 73, 74, 75, 76, 77, 78, 79, 80, 81, 82, 83, 84, 85, 86] (by decide +kernel) (by decide +kernel)
set_option maxRecDepth 20000 in
theorem gX9_planLength_X9_isOrder : GoodIn wsX9_planLength (wsV RX9 200 RX9 yX9_isOrder wsX9_isOrder) := goodIn_app (goodIn_of _ (by decide +kernel)) ggX9_planLength_X9_isOrder
set_option maxRecDepth 20000 in
theorem ggX9_planLength_X9_findPlan : GoodIn wsX9_planLength wsX9_findPlan := goodIn_r _ [25, 1, 26, 27, 28, 29, 30, 5, 31, 32, 33, 11, 12, 13, 34, 35, 36, 37, 38, 39, 40, 41, 42, 43, 10, 44, 45, 46, 47, 48, 49, 50, 51, 52, 53, 54, 55, 56, 57, 58, 59, 60, 61, 62, 63, 64, 65, 66, 67, 68, 69, 70, 71, 72, 73, 74, 75, 76, 77, 78, 79, 80, 81, 82, 83, 84, 85, 86] (by decide +kernel) (by decide +kernel)
set_option maxRecDepth 20000 in
theorem gX9_planLength_X9_findPlan : GoodIn wsX9_planLength (wsV RX9 203 RX9 yX9_findPlan wsX9_findPlan) := goodIn_app (goodIn_of _ (by decide +kernel)) ggX9_planLength_X9_findPlan
theorem dX9_planLength_0 : decode cX9_planLength 0 = .ok (.aload_n 0, 1) := by decide +kernel
theorem dX9_planLength_1 : decode cX9_planLength 1 = .ok (.lload_n 1, 1) := by decide +kernel
theorem dX9_planLength_2 : decode cX9_planLength 2 = .ok (.iload_n 3, 1) := by decide +kernel
theorem dX9_planLength_3 : decode cX9_planLength 3 = .ok (.invokevirtual 200, 3) := by decide +kernel
theorem dX9_planLength_6 : decode cX9_planLength 6 = .ok (.ifCond .ne 5, 3) := by decide +kernel
theorem dX9_planLength_9 : decode cX9_planLength 9 = .ok (.iconst 0, 1) := by decide +kernel
theorem dX9_planLength_10 : decode cX9_planLength 10 = .ok (.ireturn, 1) := by decide +kernel
theorem dX9_planLength_11 : decode cX9_planLength 11 = .ok (.aload_n 0, 1) := by decide +kernel
theorem dX9_planLength_12 : decode cX9_planLength 12 = .ok (.lload_n 1, 1) := by decide +kernel
theorem dX9_planLength_13 : decode cX9_planLength 13 = .ok (.iload_n 3, 1) := by decide +kernel
theorem dX9_planLength_14 : decode cX9_planLength 14 = .ok (.invokevirtual 203, 3) := by decide +kernel
theorem dX9_planLength_17 : decode cX9_planLength 17 = .ok (.pop, 1) := by decide +kernel
theorem dX9_planLength_18 : decode cX9_planLength 18 = .ok (.aload_n 0, 1) := by decide +kernel
theorem dX9_planLength_19 : decode cX9_planLength 19 = .ok (.getfield 190, 3) := by decide +kernel
theorem dX9_planLength_22 : decode cX9_planLength 22 = .ok (.ireturn, 1) := by decide +kernel
set_option maxRecDepth 20000 in
theorem ggX9_planWord_X9_isOrder : GoodIn wsX9_planWord wsX9_isOrder := goodIn_r _ [8, 9, 10, 7, 11, 12, 13, 14, 15, 16, 17, 18, 19, 20, 21, 22, 23, 72, 73, 74, 75, 76, 77, 78, 79, 80, 81, 82, 83, 84, 85, 86, 87, 88, 89, 90] (by decide +kernel) (by decide +kernel)
set_option maxRecDepth 20000 in
theorem gX9_planWord_X9_isOrder : GoodIn wsX9_planWord (wsV RX9 200 RX9 yX9_isOrder wsX9_isOrder) := goodIn_app (goodIn_of _ (by decide +kernel)) ggX9_planWord_X9_isOrder
set_option maxRecDepth 20000 in
theorem ggX9_planWord_X9_findPlan : GoodIn wsX9_planWord wsX9_findPlan := goodIn_r _ [27, 1, 28, 29, 30, 31, 32, 7, 33, 34, 35, 13, 14, 15, 36, 37, 38, 39, 40, 2, 41, 42, 43, 44, 12, 45, 46, 47, 48, 49, 50, 51, 52, 53, 54, 3, 55, 56, 57, 58, 59, 60, 61, 62, 63, 64, 65, 66, 67, 72, 73, 74, 75, 76, 77, 78, 79, 80, 81, 82, 83, 84, 85, 86, 87, 88, 89, 90] (by decide +kernel) (by decide +kernel)
set_option maxRecDepth 20000 in
theorem gX9_planWord_X9_findPlan : GoodIn wsX9_planWord (wsV RX9 203 RX9 yX9_findPlan wsX9_findPlan) := goodIn_app (goodIn_of _ (by decide +kernel)) ggX9_planWord_X9_findPlan
set_option maxRecDepth 20000 in
theorem ggX9_planWord_X9_isWithin : GoodIn wsX9_planWord wsX9_isWithin := goodIn_r _ [18] (by decide +kernel) (by decide +kernel)
set_option maxRecDepth 20000 in
theorem gX9_planWord_X9_isWithin : GoodIn wsX9_planWord (va_wsS RX9 65 yX9_isWithin wsX9_isWithin) := goodIn_app (goodIn_of _ (by decide +kernel)) ggX9_planWord_X9_isWithin
set_option maxRecDepth 20000 in
theorem ggX9_planWord_X9_fail : GoodIn wsX9_planWord wsX9_fail := goodIn_r _ [71, 23, 72, 73, 74, 75, 76, 77, 78, 79, 80, 81, 82, 83, 84, 85, 86, 87, 88, 89, 90] (by decide +kernel) (by decide +kernel)
set_option maxRecDepth 20000 in
theorem gX9_planWord_X9_fail : GoodIn wsX9_planWord (wsV RX9 90 RX9 yX9_fail wsX9_fail) := goodIn_app (goodIn_of _ (by decide +kernel)) ggX9_planWord_X9_fail
theorem dX9_planWord_0 : decode cX9_planWord 0 = .ok (.aload_n 0, 1) := by decide +kernel
theorem dX9_planWord_1 : decode cX9_planWord 1 = .ok (.lload_n 1, 1) := by decide +kernel
theorem dX9_planWord_2 : decode cX9_planWord 2 = .ok (.iload_n 3, 1) := by decide +kernel
theorem dX9_planWord_3 : decode cX9_planWord 3 = .ok (.invokevirtual 200, 3) := by decide +kernel
theorem dX9_planWord_6 : decode cX9_planWord 6 = .ok (.ifCond .ne 5, 3) := by decide +kernel
theorem dX9_planWord_9 : decode cX9_planWord 9 = .ok (.lconst 0, 1) := by decide +kernel
theorem dX9_planWord_10 : decode cX9_planWord 10 = .ok (.lreturn, 1) := by decide +kernel
theorem dX9_planWord_11 : decode cX9_planWord 11 = .ok (.aload_n 0, 1) := by decide +kernel
theorem dX9_planWord_12 : decode cX9_planWord 12 = .ok (.lload_n 1, 1) := by decide +kernel
theorem dX9_planWord_13 : decode cX9_planWord 13 = .ok (.iload_n 3, 1) := by decide +kernel
theorem dX9_planWord_14 : decode cX9_planWord 14 = .ok (.invokevirtual 203, 3) := by decide +kernel
theorem dX9_planWord_17 : decode cX9_planWord 17 = .ok (.pop, 1) := by decide +kernel
theorem dX9_planWord_18 : decode cX9_planWord 18 = .ok (.iload 4, 2) := by decide +kernel
theorem dX9_planWord_20 : decode cX9_planWord 20 = .ok (.iconst 0, 1) := by decide +kernel
theorem dX9_planWord_21 : decode cX9_planWord 21 = .ok (.aload_n 0, 1) := by decide +kernel
theorem dX9_planWord_22 : decode cX9_planWord 22 = .ok (.getfield 190, 3) := by decide +kernel
theorem dX9_planWord_25 : decode cX9_planWord 25 = .ok (.iconst 1, 1) := by decide +kernel
theorem dX9_planWord_26 : decode cX9_planWord 26 = .ok (.isub, 1) := by decide +kernel
theorem dX9_planWord_27 : decode cX9_planWord 27 = .ok (.invokestatic 65, 3) := by decide +kernel
theorem dX9_planWord_30 : decode cX9_planWord 30 = .ok (.ifCond .eq 18, 3) := by decide +kernel
theorem dX9_planWord_33 : decode cX9_planWord 33 = .ok (.aload_n 0, 1) := by decide +kernel
theorem dX9_planWord_34 : decode cX9_planWord 34 = .ok (.getfield 7, 3) := by decide +kernel
theorem dX9_planWord_37 : decode cX9_planWord 37 = .ok (.aload_n 0, 1) := by decide +kernel
theorem dX9_planWord_38 : decode cX9_planWord 38 = .ok (.getfield 48, 3) := by decide +kernel
theorem dX9_planWord_41 : decode cX9_planWord 41 = .ok (.iload 4, 2) := by decide +kernel
theorem dX9_planWord_43 : decode cX9_planWord 43 = .ok (.iaload, 1) := by decide +kernel
theorem dX9_planWord_44 : decode cX9_planWord 44 = .ok (.laload, 1) := by decide +kernel
theorem dX9_planWord_45 : decode cX9_planWord 45 = .ok (.goto 9, 3) := by decide +kernel
theorem dX9_planWord_48 : decode cX9_planWord 48 = .ok (.aload_n 0, 1) := by decide +kernel
theorem dX9_planWord_49 : decode cX9_planWord 49 = .ok (.iconst 2, 1) := by decide +kernel
theorem dX9_planWord_50 : decode cX9_planWord 50 = .ok (.invokevirtual 90, 3) := by decide +kernel
theorem dX9_planWord_53 : decode cX9_planWord 53 = .ok (.i2l, 1) := by decide +kernel
theorem dX9_planWord_54 : decode cX9_planWord 54 = .ok (.lreturn, 1) := by decide +kernel
set_option maxRecDepth 20000 in
theorem ggX9_leftoverCount_X9_isOrder : GoodIn wsX9_leftoverCount wsX9_isOrder := goodIn_r _ [5, 6, 7, 4, 8, 9, 10, 11, 12, 13, 14, 15, 16, 17, 18, 19, 20, 68, 69, 70, 71, 72, 73, 74, 75, 76, 77, 78, 79, 80, 81, 82, 83, 84, 85, 86] (by decide +kernel) (by decide +kernel)
set_option maxRecDepth 20000 in
theorem gX9_leftoverCount_X9_isOrder : GoodIn wsX9_leftoverCount (wsV RX9 200 RX9 yX9_isOrder wsX9_isOrder) := goodIn_app (goodIn_of _ (by decide +kernel)) ggX9_leftoverCount_X9_isOrder
set_option maxRecDepth 20000 in
theorem ggX9_leftoverCount_X9_findPlan : GoodIn wsX9_leftoverCount wsX9_findPlan := goodIn_r _ [24, 25, 26, 27, 28, 29, 30, 4, 31, 32, 33, 10, 11, 12, 34, 35, 36, 37, 38, 39, 40, 41, 42, 43, 9, 44, 45, 46, 47, 48, 49, 50, 51, 52, 53, 54, 55, 56, 57, 58, 59, 60, 61, 62, 63, 64, 65, 66, 67, 68, 69, 70, 71, 72, 73, 74, 75, 76, 77, 78, 79, 80, 81, 82, 83, 84, 85, 86] (by decide +kernel) (by decide +kernel)
set_option maxRecDepth 20000 in
theorem gX9_leftoverCount_X9_findPlan : GoodIn wsX9_leftoverCount (wsV RX9 203 RX9 yX9_findPlan wsX9_findPlan) := goodIn_app (goodIn_of _ (by decide +kernel)) ggX9_leftoverCount_X9_findPlan
theorem dX9_leftoverCount_0 : decode cX9_leftoverCount 0 = .ok (.aload_n 0, 1) := by decide +kernel
theorem dX9_leftoverCount_1 : decode cX9_leftoverCount 1 = .ok (.lload_n 1, 1) := by decide +kernel
theorem dX9_leftoverCount_2 : decode cX9_leftoverCount 2 = .ok (.iload_n 3, 1) := by decide +kernel
theorem dX9_leftoverCount_3 : decode cX9_leftoverCount 3 = .ok (.invokevirtual 200, 3) := by decide +kernel
theorem dX9_leftoverCount_6 : decode cX9_leftoverCount 6 = .ok (.ifCond .eq 12, 3) := by decide +kernel
theorem dX9_leftoverCount_9 : decode cX9_leftoverCount 9 = .ok (.aload_n 0, 1) := by decide +kernel
theorem dX9_leftoverCount_10 : decode cX9_leftoverCount 10 = .ok (.lload_n 1, 1) := by decide +kernel
theorem dX9_leftoverCount_11 : decode cX9_leftoverCount 11 = .ok (.iload_n 3, 1) := by decide +kernel
theorem dX9_leftoverCount_12 : decode cX9_leftoverCount 12 = .ok (.invokevirtual 203, 3) := by decide +kernel
theorem dX9_leftoverCount_15 : decode cX9_leftoverCount 15 = .ok (.goto 4, 3) := by decide +kernel
theorem dX9_leftoverCount_18 : decode cX9_leftoverCount 18 = .ok (.iconst 0, 1) := by decide +kernel
theorem dX9_leftoverCount_19 : decode cX9_leftoverCount 19 = .ok (.ireturn, 1) := by decide +kernel
set_option maxRecDepth 20000 in
theorem ggX9_cutToOrder_X9_isOrder : GoodIn wsX9_cutToOrder wsX9_isOrder := goodIn_r _ [12, 13, 14, 11, 15, 16, 17, 18, 19, 20, 21, 22, 23, 24, 25, 26, 27, 91, 92, 93, 94, 95, 96, 97, 98, 99, 100, 101, 102, 103, 104, 105, 106, 107, 108, 109] (by decide +kernel) (by decide +kernel)
set_option maxRecDepth 20000 in
theorem gX9_cutToOrder_X9_isOrder : GoodIn wsX9_cutToOrder (wsV RX9 200 RX9 yX9_isOrder wsX9_isOrder) := goodIn_app (goodIn_of _ (by decide +kernel)) ggX9_cutToOrder_X9_isOrder
set_option maxRecDepth 20000 in
theorem ggX9_cutToOrder_X9_findPlan : GoodIn wsX9_cutToOrder wsX9_findPlan := goodIn_r _ [31, 5, 32, 33, 34, 35, 36, 11, 37, 3, 38, 17, 18, 19, 39, 40, 41, 42, 43, 6, 44, 45, 46, 47, 16, 48, 49, 50, 51, 52, 53, 54, 55, 56, 57, 7, 58, 59, 60, 61, 62, 63, 64, 65, 66, 67, 68, 69, 70, 91, 92, 93, 94, 95, 96, 97, 98, 99, 100, 101, 102, 103, 104, 105, 106, 107, 108, 109] (by decide +kernel) (by decide +kernel)
set_option maxRecDepth 20000 in
theorem gX9_cutToOrder_X9_findPlan : GoodIn wsX9_cutToOrder (wsV RX9 203 RX9 yX9_findPlan wsX9_findPlan) := goodIn_app (goodIn_of _ (by decide +kernel)) ggX9_cutToOrder_X9_findPlan
set_option maxRecDepth 20000 in
theorem ggX9_cutToOrder_X9_leftOf : GoodIn wsX9_cutToOrder wsX9_leftOf := goodIn_r _ [74, 3, 5, 6, 7, 48, 49, 11, 50, 16, 91, 92, 93, 94, 95, 96, 97, 98, 99, 100, 101, 102, 103, 104, 105, 106, 107, 108, 109] (by decide +kernel) (by decide +kernel)
set_option maxRecDepth 20000 in
theorem gX9_cutToOrder_X9_leftOf : GoodIn wsX9_cutToOrder (wsV RX9 206 RX9 yX9_leftOf wsX9_leftOf) := goodIn_app (goodIn_of _ (by decide +kernel)) ggX9_cutToOrder_X9_leftOf
set_option maxRecDepth 20000 in
theorem ggX9_cutToOrder_X9_fail : GoodIn wsX9_cutToOrder wsX9_fail := goodIn_r _ [78, 27, 91, 92, 93, 94, 95, 96, 97, 98, 99, 100, 101, 102, 103, 104, 105, 106, 107, 108, 109] (by decide +kernel) (by decide +kernel)
set_option maxRecDepth 20000 in
theorem gX9_cutToOrder_X9_fail : GoodIn wsX9_cutToOrder (wsV RX9 90 RX9 yX9_fail wsX9_fail) := goodIn_app (goodIn_of _ (by decide +kernel)) ggX9_cutToOrder_X9_fail
set_option maxRecDepth 20000 in
theorem ggX9_cutToOrder_X9_lengthOf : GoodIn wsX9_cutToOrder wsX9_lengthOf := goodIn_r _ [19] (by decide +kernel) (by decide +kernel)
set_option maxRecDepth 20000 in
theorem gX9_cutToOrder_X9_lengthOf : GoodIn wsX9_cutToOrder (va_wsS RX9 59 yX9_lengthOf wsX9_lengthOf) := goodIn_app (goodIn_of _ (by decide +kernel)) ggX9_cutToOrder_X9_lengthOf
set_option maxRecDepth 20000 in
theorem ggX9_cutToOrder_X9_write : GoodIn wsX9_cutToOrder wsX9_write := goodIn_r _ [82, 83, 84, 85, 86, 87, 88, 89, 90, 91, 92, 93, 94, 95, 96, 97, 98, 99, 100, 101, 102, 103, 104, 105, 106, 107, 108, 109] (by decide +kernel) (by decide +kernel)
set_option maxRecDepth 20000 in
theorem gX9_cutToOrder_X9_write : GoodIn wsX9_cutToOrder (wsV RX9 162 RX9 yX9_write wsX9_write) := goodIn_app (goodIn_of _ (by decide +kernel)) ggX9_cutToOrder_X9_write
theorem dX9_cutToOrder_0 : decode cX9_cutToOrder 0 = .ok (.aload_n 0, 1) := by decide +kernel
theorem dX9_cutToOrder_1 : decode cX9_cutToOrder 1 = .ok (.lload_n 1, 1) := by decide +kernel
theorem dX9_cutToOrder_2 : decode cX9_cutToOrder 2 = .ok (.iload_n 3, 1) := by decide +kernel
theorem dX9_cutToOrder_3 : decode cX9_cutToOrder 3 = .ok (.invokevirtual 200, 3) := by decide +kernel
theorem dX9_cutToOrder_6 : decode cX9_cutToOrder 6 = .ok (.ifCond .ne 5, 3) := by decide +kernel
theorem dX9_cutToOrder_9 : decode cX9_cutToOrder 9 = .ok (.iconst 0, 1) := by decide +kernel
theorem dX9_cutToOrder_10 : decode cX9_cutToOrder 10 = .ok (.ireturn, 1) := by decide +kernel
theorem dX9_cutToOrder_11 : decode cX9_cutToOrder 11 = .ok (.aload_n 0, 1) := by decide +kernel
theorem dX9_cutToOrder_12 : decode cX9_cutToOrder 12 = .ok (.lload_n 1, 1) := by decide +kernel
theorem dX9_cutToOrder_13 : decode cX9_cutToOrder 13 = .ok (.iload_n 3, 1) := by decide +kernel
theorem dX9_cutToOrder_14 : decode cX9_cutToOrder 14 = .ok (.invokevirtual 203, 3) := by decide +kernel
theorem dX9_cutToOrder_17 : decode cX9_cutToOrder 17 = .ok (.istore 4, 2) := by decide +kernel
theorem dX9_cutToOrder_19 : decode cX9_cutToOrder 19 = .ok (.iconst 1, 1) := by decide +kernel
theorem dX9_cutToOrder_20 : decode cX9_cutToOrder 20 = .ok (.istore 5, 2) := by decide +kernel
theorem dX9_cutToOrder_22 : decode cX9_cutToOrder 22 = .ok (.iload 5, 2) := by decide +kernel
theorem dX9_cutToOrder_24 : decode cX9_cutToOrder 24 = .ok (.bipush 26, 2) := by decide +kernel
theorem dX9_cutToOrder_26 : decode cX9_cutToOrder 26 = .ok (.if_icmp .gt 35, 3) := by decide +kernel
theorem dX9_cutToOrder_29 : decode cX9_cutToOrder 29 = .ok (.aload_n 0, 1) := by decide +kernel
theorem dX9_cutToOrder_30 : decode cX9_cutToOrder 30 = .ok (.getfield 13, 3) := by decide +kernel
theorem dX9_cutToOrder_33 : decode cX9_cutToOrder 33 = .ok (.iload 5, 2) := by decide +kernel
theorem dX9_cutToOrder_35 : decode cX9_cutToOrder 35 = .ok (.iaload, 1) := by decide +kernel
theorem dX9_cutToOrder_36 : decode cX9_cutToOrder 36 = .ok (.aload_n 0, 1) := by decide +kernel
theorem dX9_cutToOrder_37 : decode cX9_cutToOrder 37 = .ok (.iload 5, 2) := by decide +kernel
theorem dX9_cutToOrder_39 : decode cX9_cutToOrder 39 = .ok (.invokevirtual 206, 3) := by decide +kernel
theorem dX9_cutToOrder_42 : decode cX9_cutToOrder 42 = .ok (.iadd, 1) := by decide +kernel
theorem dX9_cutToOrder_43 : decode cX9_cutToOrder 43 = .ok (.sipush 999, 3) := by decide +kernel
theorem dX9_cutToOrder_46 : decode cX9_cutToOrder 46 = .ok (.if_icmp .le 9, 3) := by decide +kernel
theorem dX9_cutToOrder_49 : decode cX9_cutToOrder 49 = .ok (.aload_n 0, 1) := by decide +kernel
theorem dX9_cutToOrder_50 : decode cX9_cutToOrder 50 = .ok (.iconst 2, 1) := by decide +kernel
theorem dX9_cutToOrder_51 : decode cX9_cutToOrder 51 = .ok (.invokevirtual 90, 3) := by decide +kernel
theorem dX9_cutToOrder_54 : decode cX9_cutToOrder 54 = .ok (.ireturn, 1) := by decide +kernel
theorem dX9_cutToOrder_55 : decode cX9_cutToOrder 55 = .ok (.iinc 5 1, 3) := by decide +kernel
theorem dX9_cutToOrder_58 : decode cX9_cutToOrder 58 = .ok (.goto (-36), 3) := by decide +kernel
theorem dX9_cutToOrder_61 : decode cX9_cutToOrder 61 = .ok (.iconst 1, 1) := by decide +kernel
theorem dX9_cutToOrder_62 : decode cX9_cutToOrder 62 = .ok (.istore 5, 2) := by decide +kernel
theorem dX9_cutToOrder_64 : decode cX9_cutToOrder 64 = .ok (.iload 5, 2) := by decide +kernel
theorem dX9_cutToOrder_66 : decode cX9_cutToOrder 66 = .ok (.bipush 26, 2) := by decide +kernel
theorem dX9_cutToOrder_68 : decode cX9_cutToOrder 68 = .ok (.if_icmp .gt 66, 3) := by decide +kernel
theorem dX9_cutToOrder_71 : decode cX9_cutToOrder 71 = .ok (.aload_n 0, 1) := by decide +kernel
theorem dX9_cutToOrder_72 : decode cX9_cutToOrder 72 = .ok (.getfield 13, 3) := by decide +kernel
theorem dX9_cutToOrder_75 : decode cX9_cutToOrder 75 = .ok (.iload 5, 2) := by decide +kernel
theorem dX9_cutToOrder_77 : decode cX9_cutToOrder 77 = .ok (.dup2, 1) := by decide +kernel
theorem dX9_cutToOrder_78 : decode cX9_cutToOrder 78 = .ok (.iaload, 1) := by decide +kernel
theorem dX9_cutToOrder_79 : decode cX9_cutToOrder 79 = .ok (.aload_n 0, 1) := by decide +kernel
theorem dX9_cutToOrder_80 : decode cX9_cutToOrder 80 = .ok (.iload 5, 2) := by decide +kernel
theorem dX9_cutToOrder_82 : decode cX9_cutToOrder 82 = .ok (.invokevirtual 206, 3) := by decide +kernel
theorem dX9_cutToOrder_85 : decode cX9_cutToOrder 85 = .ok (.iadd, 1) := by decide +kernel
theorem dX9_cutToOrder_86 : decode cX9_cutToOrder 86 = .ok (.iastore, 1) := by decide +kernel
theorem dX9_cutToOrder_87 : decode cX9_cutToOrder 87 = .ok (.aload_n 0, 1) := by decide +kernel
theorem dX9_cutToOrder_88 : decode cX9_cutToOrder 88 = .ok (.getfield 23, 3) := by decide +kernel
theorem dX9_cutToOrder_91 : decode cX9_cutToOrder 91 = .ok (.iload 5, 2) := by decide +kernel
theorem dX9_cutToOrder_93 : decode cX9_cutToOrder 93 = .ok (.dup2, 1) := by decide +kernel
theorem dX9_cutToOrder_94 : decode cX9_cutToOrder 94 = .ok (.iaload, 1) := by decide +kernel
theorem dX9_cutToOrder_95 : decode cX9_cutToOrder 95 = .ok (.aload_n 0, 1) := by decide +kernel
theorem dX9_cutToOrder_96 : decode cX9_cutToOrder 96 = .ok (.getfield 39, 3) := by decide +kernel
theorem dX9_cutToOrder_99 : decode cX9_cutToOrder 99 = .ok (.iload 5, 2) := by decide +kernel
theorem dX9_cutToOrder_101 : decode cX9_cutToOrder 101 = .ok (.iaload, 1) := by decide +kernel
theorem dX9_cutToOrder_102 : decode cX9_cutToOrder 102 = .ok (.aload_n 0, 1) := by decide +kernel
theorem dX9_cutToOrder_103 : decode cX9_cutToOrder 103 = .ok (.iload 5, 2) := by decide +kernel
theorem dX9_cutToOrder_105 : decode cX9_cutToOrder 105 = .ok (.invokevirtual 206, 3) := by decide +kernel
theorem dX9_cutToOrder_108 : decode cX9_cutToOrder 108 = .ok (.isub, 1) := by decide +kernel
theorem dX9_cutToOrder_109 : decode cX9_cutToOrder 109 = .ok (.iadd, 1) := by decide +kernel
theorem dX9_cutToOrder_110 : decode cX9_cutToOrder 110 = .ok (.iastore, 1) := by decide +kernel
theorem dX9_cutToOrder_111 : decode cX9_cutToOrder 111 = .ok (.aload_n 0, 1) := by decide +kernel
theorem dX9_cutToOrder_112 : decode cX9_cutToOrder 112 = .ok (.getfield 20, 3) := by decide +kernel
theorem dX9_cutToOrder_115 : decode cX9_cutToOrder 115 = .ok (.iload 5, 2) := by decide +kernel
theorem dX9_cutToOrder_117 : decode cX9_cutToOrder 117 = .ok (.dup2, 1) := by decide +kernel
theorem dX9_cutToOrder_118 : decode cX9_cutToOrder 118 = .ok (.iaload, 1) := by decide +kernel
theorem dX9_cutToOrder_119 : decode cX9_cutToOrder 119 = .ok (.aload_n 0, 1) := by decide +kernel
theorem dX9_cutToOrder_120 : decode cX9_cutToOrder 120 = .ok (.getfield 39, 3) := by decide +kernel
theorem dX9_cutToOrder_123 : decode cX9_cutToOrder 123 = .ok (.iload 5, 2) := by decide +kernel
theorem dX9_cutToOrder_125 : decode cX9_cutToOrder 125 = .ok (.iaload, 1) := by decide +kernel
theorem dX9_cutToOrder_126 : decode cX9_cutToOrder 126 = .ok (.iadd, 1) := by decide +kernel
theorem dX9_cutToOrder_127 : decode cX9_cutToOrder 127 = .ok (.iastore, 1) := by decide +kernel
theorem dX9_cutToOrder_128 : decode cX9_cutToOrder 128 = .ok (.iinc 5 1, 3) := by decide +kernel
theorem dX9_cutToOrder_131 : decode cX9_cutToOrder 131 = .ok (.goto (-67), 3) := by decide +kernel
theorem dX9_cutToOrder_134 : decode cX9_cutToOrder 134 = .ok (.iconst 0, 1) := by decide +kernel
theorem dX9_cutToOrder_135 : decode cX9_cutToOrder 135 = .ok (.istore 5, 2) := by decide +kernel
theorem dX9_cutToOrder_137 : decode cX9_cutToOrder 137 = .ok (.iload 5, 2) := by decide +kernel
theorem dX9_cutToOrder_139 : decode cX9_cutToOrder 139 = .ok (.aload_n 0, 1) := by decide +kernel
theorem dX9_cutToOrder_140 : decode cX9_cutToOrder 140 = .ok (.getfield 190, 3) := by decide +kernel
theorem dX9_cutToOrder_143 : decode cX9_cutToOrder 143 = .ok (.if_icmp .ge 42, 3) := by decide +kernel
theorem dX9_cutToOrder_146 : decode cX9_cutToOrder 146 = .ok (.aload_n 0, 1) := by decide +kernel
theorem dX9_cutToOrder_147 : decode cX9_cutToOrder 147 = .ok (.aload_n 0, 1) := by decide +kernel
theorem dX9_cutToOrder_148 : decode cX9_cutToOrder 148 = .ok (.getfield 7, 3) := by decide +kernel
theorem dX9_cutToOrder_151 : decode cX9_cutToOrder 151 = .ok (.aload_n 0, 1) := by decide +kernel
theorem dX9_cutToOrder_152 : decode cX9_cutToOrder 152 = .ok (.getfield 48, 3) := by decide +kernel
theorem dX9_cutToOrder_155 : decode cX9_cutToOrder 155 = .ok (.iload 5, 2) := by decide +kernel
theorem dX9_cutToOrder_157 : decode cX9_cutToOrder 157 = .ok (.iaload, 1) := by decide +kernel
theorem dX9_cutToOrder_158 : decode cX9_cutToOrder 158 = .ok (.laload, 1) := by decide +kernel
theorem dX9_cutToOrder_159 : decode cX9_cutToOrder 159 = .ok (.iconst 2, 1) := by decide +kernel
theorem dX9_cutToOrder_160 : decode cX9_cutToOrder 160 = .ok (.aload_n 0, 1) := by decide +kernel
theorem dX9_cutToOrder_161 : decode cX9_cutToOrder 161 = .ok (.getfield 7, 3) := by decide +kernel
theorem dX9_cutToOrder_164 : decode cX9_cutToOrder 164 = .ok (.aload_n 0, 1) := by decide +kernel
theorem dX9_cutToOrder_165 : decode cX9_cutToOrder 165 = .ok (.getfield 48, 3) := by decide +kernel
theorem dX9_cutToOrder_168 : decode cX9_cutToOrder 168 = .ok (.iload 5, 2) := by decide +kernel
theorem dX9_cutToOrder_170 : decode cX9_cutToOrder 170 = .ok (.iaload, 1) := by decide +kernel
theorem dX9_cutToOrder_171 : decode cX9_cutToOrder 171 = .ok (.laload, 1) := by decide +kernel
theorem dX9_cutToOrder_172 : decode cX9_cutToOrder 172 = .ok (.invokestatic 59, 3) := by decide +kernel
theorem dX9_cutToOrder_175 : decode cX9_cutToOrder 175 = .ok (.imul, 1) := by decide +kernel
theorem dX9_cutToOrder_176 : decode cX9_cutToOrder 176 = .ok (.invokevirtual 162, 3) := by decide +kernel
theorem dX9_cutToOrder_179 : decode cX9_cutToOrder 179 = .ok (.iinc 5 1, 3) := by decide +kernel
theorem dX9_cutToOrder_182 : decode cX9_cutToOrder 182 = .ok (.goto (-45), 3) := by decide +kernel
theorem dX9_cutToOrder_185 : decode cX9_cutToOrder 185 = .ok (.iload 4, 2) := by decide +kernel
theorem dX9_cutToOrder_187 : decode cX9_cutToOrder 187 = .ok (.ireturn, 1) := by decide +kernel
set_option maxRecDepth 20000 in
theorem ggX9_leftOf_X9_countIn : GoodIn wsX9_leftOf wsX9_countIn := goodIn_r _ [8, 9] (by decide +kernel) (by decide +kernel)
set_option maxRecDepth 20000 in
theorem gX9_leftOf_X9_countIn : GoodIn wsX9_leftOf (va_wsS RX9 72 yX9_countIn wsX9_countIn) := goodIn_app (goodIn_of _ (by decide +kernel)) ggX9_leftOf_X9_countIn
theorem dX9_leftOf_0 : decode cX9_leftOf 0 = .ok (.aload_n 0, 1) := by decide +kernel
theorem dX9_leftOf_1 : decode cX9_leftOf 1 = .ok (.getfield 39, 3) := by decide +kernel
theorem dX9_leftOf_4 : decode cX9_leftOf 4 = .ok (.iload_n 1, 1) := by decide +kernel
theorem dX9_leftOf_5 : decode cX9_leftOf 5 = .ok (.iaload, 1) := by decide +kernel
theorem dX9_leftOf_6 : decode cX9_leftOf 6 = .ok (.istore_n 2, 1) := by decide +kernel
theorem dX9_leftOf_7 : decode cX9_leftOf 7 = .ok (.iconst 0, 1) := by decide +kernel
theorem dX9_leftOf_8 : decode cX9_leftOf 8 = .ok (.istore_n 3, 1) := by decide +kernel
theorem dX9_leftOf_9 : decode cX9_leftOf 9 = .ok (.iload_n 3, 1) := by decide +kernel
theorem dX9_leftOf_10 : decode cX9_leftOf 10 = .ok (.aload_n 0, 1) := by decide +kernel
theorem dX9_leftOf_11 : decode cX9_leftOf 11 = .ok (.getfield 190, 3) := by decide +kernel
theorem dX9_leftOf_14 : decode cX9_leftOf 14 = .ok (.if_icmp .ge 27, 3) := by decide +kernel
theorem dX9_leftOf_17 : decode cX9_leftOf 17 = .ok (.iload_n 2, 1) := by decide +kernel
theorem dX9_leftOf_18 : decode cX9_leftOf 18 = .ok (.aload_n 0, 1) := by decide +kernel
theorem dX9_leftOf_19 : decode cX9_leftOf 19 = .ok (.getfield 7, 3) := by decide +kernel
theorem dX9_leftOf_22 : decode cX9_leftOf 22 = .ok (.aload_n 0, 1) := by decide +kernel
theorem dX9_leftOf_23 : decode cX9_leftOf 23 = .ok (.getfield 48, 3) := by decide +kernel
theorem dX9_leftOf_26 : decode cX9_leftOf 26 = .ok (.iload_n 3, 1) := by decide +kernel
theorem dX9_leftOf_27 : decode cX9_leftOf 27 = .ok (.iaload, 1) := by decide +kernel
theorem dX9_leftOf_28 : decode cX9_leftOf 28 = .ok (.laload, 1) := by decide +kernel
theorem dX9_leftOf_29 : decode cX9_leftOf 29 = .ok (.iload_n 1, 1) := by decide +kernel
theorem dX9_leftOf_30 : decode cX9_leftOf 30 = .ok (.invokestatic 72, 3) := by decide +kernel
theorem dX9_leftOf_33 : decode cX9_leftOf 33 = .ok (.isub, 1) := by decide +kernel
theorem dX9_leftOf_34 : decode cX9_leftOf 34 = .ok (.istore_n 2, 1) := by decide +kernel
theorem dX9_leftOf_35 : decode cX9_leftOf 35 = .ok (.iinc 3 1, 3) := by decide +kernel
theorem dX9_leftOf_38 : decode cX9_leftOf 38 = .ok (.goto (-29), 3) := by decide +kernel
theorem dX9_leftOf_41 : decode cX9_leftOf 41 = .ok (.iload_n 2, 1) := by decide +kernel
theorem dX9_leftOf_42 : decode cX9_leftOf 42 = .ok (.ireturn, 1) := by decide +kernel
theorem dX9_receiptCount_0 : decode cX9_receiptCount 0 = .ok (.aload_n 0, 1) := by decide +kernel
theorem dX9_receiptCount_1 : decode cX9_receiptCount 1 = .ok (.iconst 0, 1) := by decide +kernel
theorem dX9_receiptCount_2 : decode cX9_receiptCount 2 = .ok (.putfield 55, 3) := by decide +kernel
theorem dX9_receiptCount_5 : decode cX9_receiptCount 5 = .ok (.aload_n 0, 1) := by decide +kernel
theorem dX9_receiptCount_6 : decode cX9_receiptCount 6 = .ok (.getfield 156, 3) := by decide +kernel
theorem dX9_receiptCount_9 : decode cX9_receiptCount 9 = .ok (.ireturn, 1) := by decide +kernel
set_option maxRecDepth 20000 in
theorem ggX9_isReceipt_X9_isWithin : GoodIn wsX9_isReceipt wsX9_isWithin := goodIn_r _ [5] (by decide +kernel) (by decide +kernel)
set_option maxRecDepth 20000 in
theorem gX9_isReceipt_X9_isWithin : GoodIn wsX9_isReceipt (va_wsS RX9 65 yX9_isWithin wsX9_isWithin) := goodIn_app (goodIn_of _ (by decide +kernel)) ggX9_isReceipt_X9_isWithin
set_option maxRecDepth 20000 in
theorem ggX9_isReceipt_X9_isGood : GoodIn wsX9_isReceipt wsX9_isGood := goodIn_r _ [9, 10, 11, 12, 13, 14, 15, 16, 17, 18, 19, 20, 21, 22, 23, 24, 25, 26, 27, 28, 29] (by decide +kernel) (by decide +kernel)
set_option maxRecDepth 20000 in
theorem gX9_isReceipt_X9_isGood : GoodIn wsX9_isReceipt (wsV RX9 83 RX9 yX9_isGood wsX9_isGood) := goodIn_app (goodIn_of _ (by decide +kernel)) ggX9_isReceipt_X9_isGood
theorem dX9_isReceipt_0 : decode cX9_isReceipt 0 = .ok (.aload_n 0, 1) := by decide +kernel
theorem dX9_isReceipt_1 : decode cX9_isReceipt 1 = .ok (.iload_n 1, 1) := by decide +kernel
theorem dX9_isReceipt_2 : decode cX9_isReceipt 2 = .ok (.iconst 0, 1) := by decide +kernel
theorem dX9_isReceipt_3 : decode cX9_isReceipt 3 = .ok (.aload_n 0, 1) := by decide +kernel
theorem dX9_isReceipt_4 : decode cX9_isReceipt 4 = .ok (.getfield 156, 3) := by decide +kernel
theorem dX9_isReceipt_7 : decode cX9_isReceipt 7 = .ok (.iconst 1, 1) := by decide +kernel
theorem dX9_isReceipt_8 : decode cX9_isReceipt 8 = .ok (.isub, 1) := by decide +kernel
theorem dX9_isReceipt_9 : decode cX9_isReceipt 9 = .ok (.invokestatic 65, 3) := by decide +kernel
theorem dX9_isReceipt_12 : decode cX9_isReceipt 12 = .ok (.invokevirtual 83, 3) := by decide +kernel
theorem dX9_isReceipt_15 : decode cX9_isReceipt 15 = .ok (.ireturn, 1) := by decide +kernel
set_option maxRecDepth 20000 in
theorem ggX9_receiptWord_X9_isReceipt : GoodIn wsX9_receiptWord wsX9_isReceipt := goodIn_r _ [6, 7, 8, 9, 5, 10, 11, 12, 13, 14, 15, 16, 17, 18, 19, 20, 21, 22, 23, 24, 25, 26, 27, 28, 29, 30, 31, 32, 33, 34] (by decide +kernel) (by decide +kernel)
set_option maxRecDepth 20000 in
theorem gX9_receiptWord_X9_isReceipt : GoodIn wsX9_receiptWord (wsV RX9 209 RX9 yX9_isReceipt wsX9_isReceipt) := goodIn_app (goodIn_of _ (by decide +kernel)) ggX9_receiptWord_X9_isReceipt
theorem dX9_receiptWord_0 : decode cX9_receiptWord 0 = .ok (.aload_n 0, 1) := by decide +kernel
theorem dX9_receiptWord_1 : decode cX9_receiptWord 1 = .ok (.iload_n 1, 1) := by decide +kernel
theorem dX9_receiptWord_2 : decode cX9_receiptWord 2 = .ok (.invokevirtual 209, 3) := by decide +kernel
theorem dX9_receiptWord_5 : decode cX9_receiptWord 5 = .ok (.ifCond .eq 12, 3) := by decide +kernel
theorem dX9_receiptWord_8 : decode cX9_receiptWord 8 = .ok (.aload_n 0, 1) := by decide +kernel
theorem dX9_receiptWord_9 : decode cX9_receiptWord 9 = .ok (.getfield 26, 3) := by decide +kernel
theorem dX9_receiptWord_12 : decode cX9_receiptWord 12 = .ok (.iload_n 1, 1) := by decide +kernel
theorem dX9_receiptWord_13 : decode cX9_receiptWord 13 = .ok (.laload, 1) := by decide +kernel
theorem dX9_receiptWord_14 : decode cX9_receiptWord 14 = .ok (.goto 4, 3) := by decide +kernel
theorem dX9_receiptWord_17 : decode cX9_receiptWord 17 = .ok (.lconst 0, 1) := by decide +kernel
theorem dX9_receiptWord_18 : decode cX9_receiptWord 18 = .ok (.lreturn, 1) := by decide +kernel
set_option maxRecDepth 20000 in
theorem ggX9_receiptPrice_X9_isReceipt : GoodIn wsX9_receiptPrice wsX9_isReceipt := goodIn_r _ [6, 7, 8, 9, 5, 10, 11, 12, 13, 14, 15, 16, 17, 18, 19, 20, 21, 22, 23, 24, 25, 26, 27, 28, 29, 30, 31, 32, 33, 34] (by decide +kernel) (by decide +kernel)
set_option maxRecDepth 20000 in
theorem gX9_receiptPrice_X9_isReceipt : GoodIn wsX9_receiptPrice (wsV RX9 209 RX9 yX9_isReceipt wsX9_isReceipt) := goodIn_app (goodIn_of _ (by decide +kernel)) ggX9_receiptPrice_X9_isReceipt
theorem dX9_receiptPrice_0 : decode cX9_receiptPrice 0 = .ok (.aload_n 0, 1) := by decide +kernel
theorem dX9_receiptPrice_1 : decode cX9_receiptPrice 1 = .ok (.iload_n 1, 1) := by decide +kernel
theorem dX9_receiptPrice_2 : decode cX9_receiptPrice 2 = .ok (.invokevirtual 209, 3) := by decide +kernel
theorem dX9_receiptPrice_5 : decode cX9_receiptPrice 5 = .ok (.ifCond .eq 12, 3) := by decide +kernel
theorem dX9_receiptPrice_8 : decode cX9_receiptPrice 8 = .ok (.aload_n 0, 1) := by decide +kernel
theorem dX9_receiptPrice_9 : decode cX9_receiptPrice 9 = .ok (.getfield 29, 3) := by decide +kernel
theorem dX9_receiptPrice_12 : decode cX9_receiptPrice 12 = .ok (.iload_n 1, 1) := by decide +kernel
theorem dX9_receiptPrice_13 : decode cX9_receiptPrice 13 = .ok (.iaload, 1) := by decide +kernel
theorem dX9_receiptPrice_14 : decode cX9_receiptPrice 14 = .ok (.goto 4, 3) := by decide +kernel
theorem dX9_receiptPrice_17 : decode cX9_receiptPrice 17 = .ok (.iconst 0, 1) := by decide +kernel
theorem dX9_receiptPrice_18 : decode cX9_receiptPrice 18 = .ok (.ireturn, 1) := by decide +kernel
set_option maxRecDepth 20000 in
theorem ggX9_isReturned_X9_isReceipt : GoodIn wsX9_isReturned wsX9_isReceipt := goodIn_r _ [6, 7, 8, 9, 5, 10, 11, 12, 13, 14, 15, 16, 17, 18, 19, 20, 21, 22, 23, 24, 25, 26, 27, 28, 29, 30, 31, 32, 33, 34] (by decide +kernel) (by decide +kernel)
set_option maxRecDepth 20000 in
theorem gX9_isReturned_X9_isReceipt : GoodIn wsX9_isReturned (wsV RX9 209 RX9 yX9_isReceipt wsX9_isReceipt) := goodIn_app (goodIn_of _ (by decide +kernel)) ggX9_isReturned_X9_isReceipt
theorem dX9_isReturned_0 : decode cX9_isReturned 0 = .ok (.aload_n 0, 1) := by decide +kernel
theorem dX9_isReturned_1 : decode cX9_isReturned 1 = .ok (.iload_n 1, 1) := by decide +kernel
theorem dX9_isReturned_2 : decode cX9_isReturned 2 = .ok (.invokevirtual 209, 3) := by decide +kernel
theorem dX9_isReturned_5 : decode cX9_isReturned 5 = .ok (.ifCond .eq 16, 3) := by decide +kernel
theorem dX9_isReturned_8 : decode cX9_isReturned 8 = .ok (.aload_n 0, 1) := by decide +kernel
theorem dX9_isReturned_9 : decode cX9_isReturned 9 = .ok (.getfield 32, 3) := by decide +kernel
theorem dX9_isReturned_12 : decode cX9_isReturned 12 = .ok (.iload_n 1, 1) := by decide +kernel
theorem dX9_isReturned_13 : decode cX9_isReturned 13 = .ok (.baload, 1) := by decide +kernel
theorem dX9_isReturned_14 : decode cX9_isReturned 14 = .ok (.ifCond .eq 7, 3) := by decide +kernel
theorem dX9_isReturned_17 : decode cX9_isReturned 17 = .ok (.iconst 1, 1) := by decide +kernel
theorem dX9_isReturned_18 : decode cX9_isReturned 18 = .ok (.goto 4, 3) := by decide +kernel
theorem dX9_isReturned_21 : decode cX9_isReturned 21 = .ok (.iconst 0, 1) := by decide +kernel
theorem dX9_isReturned_22 : decode cX9_isReturned 22 = .ok (.ireturn, 1) := by decide +kernel
set_option maxRecDepth 20000 in
theorem ggX9_takeBack_X9_isReceipt : GoodIn wsX9_takeBack wsX9_isReceipt := goodIn_r _ [14, 15, 16, 17, 13, 18, 19, 20, 21, 22, 23, 35, 36, 37, 38, 39, 40, 41, 42, 43, 44, 45, 46, 47, 48, 49, 50, 51, 52, 53] (by decide +kernel) (by decide +kernel)
set_option maxRecDepth 20000 in
theorem gX9_takeBack_X9_isReceipt : GoodIn wsX9_takeBack (wsV RX9 209 RX9 yX9_isReceipt wsX9_isReceipt) := goodIn_app (goodIn_of _ (by decide +kernel)) ggX9_takeBack_X9_isReceipt
set_option maxRecDepth 20000 in
theorem ggX9_takeBack_X9_spell : GoodIn wsX9_takeBack wsX9_spell := goodIn_r _ [27, 5, 3, 6, 28, 29, 13, 30, 35, 36, 37, 38, 39, 40, 41, 42, 43, 44, 45, 46, 47, 48, 49, 50, 51, 52, 53] (by decide +kernel) (by decide +kernel)
set_option maxRecDepth 20000 in
theorem gX9_takeBack_X9_spell : GoodIn wsX9_takeBack (wsV RX9 109 RX9 yX9_spell wsX9_spell) := goodIn_app (goodIn_of _ (by decide +kernel)) ggX9_takeBack_X9_spell
set_option maxRecDepth 20000 in
theorem ggX9_takeBack_X9_fail : GoodIn wsX9_takeBack wsX9_fail := goodIn_r _ [34, 23, 35, 36, 37, 38, 39, 40, 41, 42, 43, 44, 45, 46, 47, 48, 49, 50, 51, 52, 53] (by decide +kernel) (by decide +kernel)
set_option maxRecDepth 20000 in
theorem gX9_takeBack_X9_fail : GoodIn wsX9_takeBack (wsV RX9 90 RX9 yX9_fail wsX9_fail) := goodIn_app (goodIn_of _ (by decide +kernel)) ggX9_takeBack_X9_fail
theorem dX9_takeBack_0 : decode cX9_takeBack 0 = .ok (.aload_n 0, 1) := by decide +kernel
theorem dX9_takeBack_1 : decode cX9_takeBack 1 = .ok (.iload_n 1, 1) := by decide +kernel
theorem dX9_takeBack_2 : decode cX9_takeBack 2 = .ok (.invokevirtual 209, 3) := by decide +kernel
theorem dX9_takeBack_5 : decode cX9_takeBack 5 = .ok (.ifCond .ne 5, 3) := by decide +kernel
theorem dX9_takeBack_8 : decode cX9_takeBack 8 = .ok (.iconst 0, 1) := by decide +kernel
theorem dX9_takeBack_9 : decode cX9_takeBack 9 = .ok (.ireturn, 1) := by decide +kernel
theorem dX9_takeBack_10 : decode cX9_takeBack 10 = .ok (.aload_n 0, 1) := by decide +kernel
theorem dX9_takeBack_11 : decode cX9_takeBack 11 = .ok (.aload_n 0, 1) := by decide +kernel
theorem dX9_takeBack_12 : decode cX9_takeBack 12 = .ok (.getfield 26, 3) := by decide +kernel
theorem dX9_takeBack_15 : decode cX9_takeBack 15 = .ok (.iload_n 1, 1) := by decide +kernel
theorem dX9_takeBack_16 : decode cX9_takeBack 16 = .ok (.laload, 1) := by decide +kernel
theorem dX9_takeBack_17 : decode cX9_takeBack 17 = .ok (.invokevirtual 109, 3) := by decide +kernel
theorem dX9_takeBack_20 : decode cX9_takeBack 20 = .ok (.iconst 1, 1) := by decide +kernel
theorem dX9_takeBack_21 : decode cX9_takeBack 21 = .ok (.istore_n 2, 1) := by decide +kernel
theorem dX9_takeBack_22 : decode cX9_takeBack 22 = .ok (.iconst 1, 1) := by decide +kernel
theorem dX9_takeBack_23 : decode cX9_takeBack 23 = .ok (.istore_n 3, 1) := by decide +kernel
theorem dX9_takeBack_24 : decode cX9_takeBack 24 = .ok (.iload_n 3, 1) := by decide +kernel
theorem dX9_takeBack_25 : decode cX9_takeBack 25 = .ok (.bipush 26, 2) := by decide +kernel
theorem dX9_takeBack_27 : decode cX9_takeBack 27 = .ok (.if_icmp .gt 38, 3) := by decide +kernel
theorem dX9_takeBack_30 : decode cX9_takeBack 30 = .ok (.iload_n 2, 1) := by decide +kernel
theorem dX9_takeBack_31 : decode cX9_takeBack 31 = .ok (.ifCond .eq 26, 3) := by decide +kernel
theorem dX9_takeBack_34 : decode cX9_takeBack 34 = .ok (.aload_n 0, 1) := by decide +kernel
theorem dX9_takeBack_35 : decode cX9_takeBack 35 = .ok (.getfield 13, 3) := by decide +kernel
theorem dX9_takeBack_38 : decode cX9_takeBack 38 = .ok (.iload_n 3, 1) := by decide +kernel
theorem dX9_takeBack_39 : decode cX9_takeBack 39 = .ok (.iaload, 1) := by decide +kernel
theorem dX9_takeBack_40 : decode cX9_takeBack 40 = .ok (.aload_n 0, 1) := by decide +kernel
theorem dX9_takeBack_41 : decode cX9_takeBack 41 = .ok (.getfield 39, 3) := by decide +kernel
theorem dX9_takeBack_44 : decode cX9_takeBack 44 = .ok (.iload_n 3, 1) := by decide +kernel
theorem dX9_takeBack_45 : decode cX9_takeBack 45 = .ok (.iaload, 1) := by decide +kernel
theorem dX9_takeBack_46 : decode cX9_takeBack 46 = .ok (.iadd, 1) := by decide +kernel
theorem dX9_takeBack_47 : decode cX9_takeBack 47 = .ok (.sipush 999, 3) := by decide +kernel
theorem dX9_takeBack_50 : decode cX9_takeBack 50 = .ok (.if_icmp .gt 7, 3) := by decide +kernel
theorem dX9_takeBack_53 : decode cX9_takeBack 53 = .ok (.iconst 1, 1) := by decide +kernel
theorem dX9_takeBack_54 : decode cX9_takeBack 54 = .ok (.goto 4, 3) := by decide +kernel
theorem dX9_takeBack_57 : decode cX9_takeBack 57 = .ok (.iconst 0, 1) := by decide +kernel
theorem dX9_takeBack_58 : decode cX9_takeBack 58 = .ok (.istore_n 2, 1) := by decide +kernel
theorem dX9_takeBack_59 : decode cX9_takeBack 59 = .ok (.iinc 3 1, 3) := by decide +kernel
theorem dX9_takeBack_62 : decode cX9_takeBack 62 = .ok (.goto (-38), 3) := by decide +kernel
theorem dX9_takeBack_65 : decode cX9_takeBack 65 = .ok (.aload_n 0, 1) := by decide +kernel
theorem dX9_takeBack_66 : decode cX9_takeBack 66 = .ok (.getfield 32, 3) := by decide +kernel
theorem dX9_takeBack_69 : decode cX9_takeBack 69 = .ok (.iload_n 1, 1) := by decide +kernel
theorem dX9_takeBack_70 : decode cX9_takeBack 70 = .ok (.baload, 1) := by decide +kernel
theorem dX9_takeBack_71 : decode cX9_takeBack 71 = .ok (.ifCond .ne 7, 3) := by decide +kernel
theorem dX9_takeBack_74 : decode cX9_takeBack 74 = .ok (.iload_n 2, 1) := by decide +kernel
theorem dX9_takeBack_75 : decode cX9_takeBack 75 = .ok (.ifCond .ne 9, 3) := by decide +kernel
theorem dX9_takeBack_78 : decode cX9_takeBack 78 = .ok (.aload_n 0, 1) := by decide +kernel
theorem dX9_takeBack_79 : decode cX9_takeBack 79 = .ok (.iconst 2, 1) := by decide +kernel
theorem dX9_takeBack_80 : decode cX9_takeBack 80 = .ok (.invokevirtual 90, 3) := by decide +kernel
theorem dX9_takeBack_83 : decode cX9_takeBack 83 = .ok (.ireturn, 1) := by decide +kernel
theorem dX9_takeBack_84 : decode cX9_takeBack 84 = .ok (.iconst 0, 1) := by decide +kernel
theorem dX9_takeBack_85 : decode cX9_takeBack 85 = .ok (.istore_n 3, 1) := by decide +kernel
theorem dX9_takeBack_86 : decode cX9_takeBack 86 = .ok (.iload_n 3, 1) := by decide +kernel
theorem dX9_takeBack_87 : decode cX9_takeBack 87 = .ok (.aload_n 0, 1) := by decide +kernel
theorem dX9_takeBack_88 : decode cX9_takeBack 88 = .ok (.getfield 69, 3) := by decide +kernel
theorem dX9_takeBack_91 : decode cX9_takeBack 91 = .ok (.if_icmp .ge 39, 3) := by decide +kernel
theorem dX9_takeBack_94 : decode cX9_takeBack 94 = .ok (.aload_n 0, 1) := by decide +kernel
theorem dX9_takeBack_95 : decode cX9_takeBack 95 = .ok (.getfield 13, 3) := by decide +kernel
theorem dX9_takeBack_98 : decode cX9_takeBack 98 = .ok (.aload_n 0, 1) := by decide +kernel
theorem dX9_takeBack_99 : decode cX9_takeBack 99 = .ok (.getfield 36, 3) := by decide +kernel
theorem dX9_takeBack_102 : decode cX9_takeBack 102 = .ok (.iload_n 3, 1) := by decide +kernel
theorem dX9_takeBack_103 : decode cX9_takeBack 103 = .ok (.iaload, 1) := by decide +kernel
theorem dX9_takeBack_104 : decode cX9_takeBack 104 = .ok (.dup2, 1) := by decide +kernel
theorem dX9_takeBack_105 : decode cX9_takeBack 105 = .ok (.iaload, 1) := by decide +kernel
theorem dX9_takeBack_106 : decode cX9_takeBack 106 = .ok (.iconst 1, 1) := by decide +kernel
theorem dX9_takeBack_107 : decode cX9_takeBack 107 = .ok (.iadd, 1) := by decide +kernel
theorem dX9_takeBack_108 : decode cX9_takeBack 108 = .ok (.iastore, 1) := by decide +kernel
theorem dX9_takeBack_109 : decode cX9_takeBack 109 = .ok (.aload_n 0, 1) := by decide +kernel
theorem dX9_takeBack_110 : decode cX9_takeBack 110 = .ok (.getfield 23, 3) := by decide +kernel
theorem dX9_takeBack_113 : decode cX9_takeBack 113 = .ok (.aload_n 0, 1) := by decide +kernel
theorem dX9_takeBack_114 : decode cX9_takeBack 114 = .ok (.getfield 36, 3) := by decide +kernel
theorem dX9_takeBack_117 : decode cX9_takeBack 117 = .ok (.iload_n 3, 1) := by decide +kernel
theorem dX9_takeBack_118 : decode cX9_takeBack 118 = .ok (.iaload, 1) := by decide +kernel
theorem dX9_takeBack_119 : decode cX9_takeBack 119 = .ok (.dup2, 1) := by decide +kernel
theorem dX9_takeBack_120 : decode cX9_takeBack 120 = .ok (.iaload, 1) := by decide +kernel
theorem dX9_takeBack_121 : decode cX9_takeBack 121 = .ok (.iconst 1, 1) := by decide +kernel
theorem dX9_takeBack_122 : decode cX9_takeBack 122 = .ok (.isub, 1) := by decide +kernel
theorem dX9_takeBack_123 : decode cX9_takeBack 123 = .ok (.iastore, 1) := by decide +kernel
theorem dX9_takeBack_124 : decode cX9_takeBack 124 = .ok (.iinc 3 1, 3) := by decide +kernel
theorem dX9_takeBack_127 : decode cX9_takeBack 127 = .ok (.goto (-41), 3) := by decide +kernel
theorem dX9_takeBack_130 : decode cX9_takeBack 130 = .ok (.aload_n 0, 1) := by decide +kernel
theorem dX9_takeBack_131 : decode cX9_takeBack 131 = .ok (.getfield 32, 3) := by decide +kernel
theorem dX9_takeBack_134 : decode cX9_takeBack 134 = .ok (.iload_n 1, 1) := by decide +kernel
theorem dX9_takeBack_135 : decode cX9_takeBack 135 = .ok (.iconst 1, 1) := by decide +kernel
theorem dX9_takeBack_136 : decode cX9_takeBack 136 = .ok (.bastore, 1) := by decide +kernel
theorem dX9_takeBack_137 : decode cX9_takeBack 137 = .ok (.aload_n 0, 1) := by decide +kernel
theorem dX9_takeBack_138 : decode cX9_takeBack 138 = .ok (.getfield 29, 3) := by decide +kernel
theorem dX9_takeBack_141 : decode cX9_takeBack 141 = .ok (.iload_n 1, 1) := by decide +kernel
theorem dX9_takeBack_142 : decode cX9_takeBack 142 = .ok (.iaload, 1) := by decide +kernel
theorem dX9_takeBack_143 : decode cX9_takeBack 143 = .ok (.aload_n 0, 1) := by decide +kernel
theorem dX9_takeBack_144 : decode cX9_takeBack 144 = .ok (.getfield 29, 3) := by decide +kernel
theorem dX9_takeBack_147 : decode cX9_takeBack 147 = .ok (.iload_n 1, 1) := by decide +kernel
theorem dX9_takeBack_148 : decode cX9_takeBack 148 = .ok (.iaload, 1) := by decide +kernel
theorem dX9_takeBack_149 : decode cX9_takeBack 149 = .ok (.bipush 10, 2) := by decide +kernel
theorem dX9_takeBack_151 : decode cX9_takeBack 151 = .ok (.idiv, 1) := by decide +kernel
theorem dX9_takeBack_152 : decode cX9_takeBack 152 = .ok (.isub, 1) := by decide +kernel
theorem dX9_takeBack_153 : decode cX9_takeBack 153 = .ok (.istore_n 3, 1) := by decide +kernel
theorem dX9_takeBack_154 : decode cX9_takeBack 154 = .ok (.aload_n 0, 1) := by decide +kernel
theorem dX9_takeBack_155 : decode cX9_takeBack 155 = .ok (.dup, 1) := by decide +kernel
theorem dX9_takeBack_156 : decode cX9_takeBack 156 = .ok (.getfield 159, 3) := by decide +kernel
theorem dX9_takeBack_159 : decode cX9_takeBack 159 = .ok (.iload_n 3, 1) := by decide +kernel
theorem dX9_takeBack_160 : decode cX9_takeBack 160 = .ok (.isub, 1) := by decide +kernel
theorem dX9_takeBack_161 : decode cX9_takeBack 161 = .ok (.putfield 159, 3) := by decide +kernel
theorem dX9_takeBack_164 : decode cX9_takeBack 164 = .ok (.iload_n 3, 1) := by decide +kernel
theorem dX9_takeBack_165 : decode cX9_takeBack 165 = .ok (.ireturn, 1) := by decide +kernel
theorem dX9_takings_0 : decode cX9_takings 0 = .ok (.aload_n 0, 1) := by decide +kernel
theorem dX9_takings_1 : decode cX9_takings 1 = .ok (.iconst 0, 1) := by decide +kernel
theorem dX9_takings_2 : decode cX9_takings 2 = .ok (.putfield 55, 3) := by decide +kernel
theorem dX9_takings_5 : decode cX9_takings 5 = .ok (.aload_n 0, 1) := by decide +kernel
theorem dX9_takings_6 : decode cX9_takings 6 = .ok (.getfield 159, 3) := by decide +kernel
theorem dX9_takings_9 : decode cX9_takings 9 = .ok (.ireturn, 1) := by decide +kernel
set_option maxRecDepth 20000 in
theorem ggX9_cameIn_X9_ofLetter : GoodIn wsX9_cameIn wsX9_ofLetter := goodIn_r _ [6, 7, 8, 5, 9, 10, 11, 12, 13, 14, 15, 16, 17, 18, 19, 20, 21, 22, 23, 24, 25, 26, 27, 28, 29, 30, 31, 32, 33] (by decide +kernel) (by decide +kernel)
set_option maxRecDepth 20000 in
theorem gX9_cameIn_X9_ofLetter : GoodIn wsX9_cameIn (wsV RX9 133 RX9 yX9_ofLetter wsX9_ofLetter) := goodIn_app (goodIn_of _ (by decide +kernel)) ggX9_cameIn_X9_ofLetter
theorem dX9_cameIn_0 : decode cX9_cameIn 0 = .ok (.aload_n 0, 1) := by decide +kernel
theorem dX9_cameIn_1 : decode cX9_cameIn 1 = .ok (.aload_n 0, 1) := by decide +kernel
theorem dX9_cameIn_2 : decode cX9_cameIn 2 = .ok (.getfield 20, 3) := by decide +kernel
theorem dX9_cameIn_5 : decode cX9_cameIn 5 = .ok (.iload_n 1, 1) := by decide +kernel
theorem dX9_cameIn_6 : decode cX9_cameIn 6 = .ok (.invokevirtual 133, 3) := by decide +kernel
theorem dX9_cameIn_9 : decode cX9_cameIn 9 = .ok (.ireturn, 1) := by decide +kernel
set_option maxRecDepth 20000 in
theorem ggX9_soldPieces_X9_ofLetter : GoodIn wsX9_soldPieces wsX9_ofLetter := goodIn_r _ [6, 7, 8, 5, 9, 10, 11, 12, 13, 14, 15, 16, 17, 18, 19, 20, 21, 22, 23, 24, 25, 26, 27, 28, 29, 30, 31, 32, 33] (by decide +kernel) (by decide +kernel)
set_option maxRecDepth 20000 in
theorem gX9_soldPieces_X9_ofLetter : GoodIn wsX9_soldPieces (wsV RX9 133 RX9 yX9_ofLetter wsX9_ofLetter) := goodIn_app (goodIn_of _ (by decide +kernel)) ggX9_soldPieces_X9_ofLetter
theorem dX9_soldPieces_0 : decode cX9_soldPieces 0 = .ok (.aload_n 0, 1) := by decide +kernel
theorem dX9_soldPieces_1 : decode cX9_soldPieces 1 = .ok (.aload_n 0, 1) := by decide +kernel
theorem dX9_soldPieces_2 : decode cX9_soldPieces 2 = .ok (.getfield 23, 3) := by decide +kernel
theorem dX9_soldPieces_5 : decode cX9_soldPieces 5 = .ok (.iload_n 1, 1) := by decide +kernel
theorem dX9_soldPieces_6 : decode cX9_soldPieces 6 = .ok (.invokevirtual 133, 3) := by decide +kernel
theorem dX9_soldPieces_9 : decode cX9_soldPieces 9 = .ok (.ireturn, 1) := by decide +kernel
theorem dJ11_isValidCodePoint_9a6ad_0 : decode cJ11_isValidCodePoint_9a6ad 0 = .ok (.iload_n 0, 1) := by decide +kernel
theorem dJ11_isValidCodePoint_9a6ad_1 : decode cJ11_isValidCodePoint_9a6ad 1 = .ok (.bipush 16, 2) := by decide +kernel
theorem dJ11_isValidCodePoint_9a6ad_3 : decode cJ11_isValidCodePoint_9a6ad 3 = .ok (.iushr, 1) := by decide +kernel
theorem dJ11_isValidCodePoint_9a6ad_4 : decode cJ11_isValidCodePoint_9a6ad 4 = .ok (.istore_n 1, 1) := by decide +kernel
theorem dJ11_isValidCodePoint_9a6ad_5 : decode cJ11_isValidCodePoint_9a6ad 5 = .ok (.iload_n 1, 1) := by decide +kernel
theorem dJ11_isValidCodePoint_9a6ad_6 : decode cJ11_isValidCodePoint_9a6ad 6 = .ok (.bipush 17, 2) := by decide +kernel
theorem dJ11_isValidCodePoint_9a6ad_8 : decode cJ11_isValidCodePoint_9a6ad 8 = .ok (.if_icmp .ge 7, 3) := by decide +kernel
theorem dJ11_isValidCodePoint_9a6ad_11 : decode cJ11_isValidCodePoint_9a6ad 11 = .ok (.iconst 1, 1) := by decide +kernel
theorem dJ11_isValidCodePoint_9a6ad_12 : decode cJ11_isValidCodePoint_9a6ad 12 = .ok (.goto 4, 3) := by decide +kernel
theorem dJ11_isValidCodePoint_9a6ad_15 : decode cJ11_isValidCodePoint_9a6ad 15 = .ok (.iconst 0, 1) := by decide +kernel
theorem dJ11_isValidCodePoint_9a6ad_16 : decode cJ11_isValidCodePoint_9a6ad 16 = .ok (.ireturn, 1) := by decide +kernel
theorem dJ11_highSurrogate_5068e_0 : decode cJ11_highSurrogate_5068e 0 = .ok (.iload_n 0, 1) := by decide +kernel
theorem dJ11_highSurrogate_5068e_1 : decode cJ11_highSurrogate_5068e 1 = .ok (.bipush 10, 2) := by decide +kernel
theorem dJ11_highSurrogate_5068e_3 : decode cJ11_highSurrogate_5068e 3 = .ok (.iushr, 1) := by decide +kernel
theorem dJ11_highSurrogate_5068e_4 : decode cJ11_highSurrogate_5068e 4 = .ok (.ldc 110, 2) := by decide +kernel
theorem dJ11_highSurrogate_5068e_6 : decode cJ11_highSurrogate_5068e 6 = .ok (.iadd, 1) := by decide +kernel
theorem dJ11_highSurrogate_5068e_7 : decode cJ11_highSurrogate_5068e 7 = .ok (.i2c, 1) := by decide +kernel
theorem dJ11_highSurrogate_5068e_8 : decode cJ11_highSurrogate_5068e 8 = .ok (.ireturn, 1) := by decide +kernel
theorem dJ11_lowSurrogate_5068e_0 : decode cJ11_lowSurrogate_5068e 0 = .ok (.iload_n 0, 1) := by decide +kernel
theorem dJ11_lowSurrogate_5068e_1 : decode cJ11_lowSurrogate_5068e 1 = .ok (.sipush 1023, 3) := by decide +kernel
theorem dJ11_lowSurrogate_5068e_4 : decode cJ11_lowSurrogate_5068e 4 = .ok (.iand, 1) := by decide +kernel
theorem dJ11_lowSurrogate_5068e_5 : decode cJ11_lowSurrogate_5068e 5 = .ok (.ldc 76, 2) := by decide +kernel
theorem dJ11_lowSurrogate_5068e_7 : decode cJ11_lowSurrogate_5068e 7 = .ok (.iadd, 1) := by decide +kernel
theorem dJ11_lowSurrogate_5068e_8 : decode cJ11_lowSurrogate_5068e 8 = .ok (.i2c, 1) := by decide +kernel
theorem dJ11_lowSurrogate_5068e_9 : decode cJ11_lowSurrogate_5068e 9 = .ok (.ireturn, 1) := by decide +kernel
theorem dJ9_max_7cf53_0 : decode cJ9_max_7cf53 0 = .ok (.iload_n 0, 1) := by decide +kernel
theorem dJ9_max_7cf53_1 : decode cJ9_max_7cf53 1 = .ok (.iload_n 1, 1) := by decide +kernel
theorem dJ9_max_7cf53_2 : decode cJ9_max_7cf53 2 = .ok (.if_icmp .lt 7, 3) := by decide +kernel
theorem dJ9_max_7cf53_5 : decode cJ9_max_7cf53 5 = .ok (.iload_n 0, 1) := by decide +kernel
theorem dJ9_max_7cf53_6 : decode cJ9_max_7cf53 6 = .ok (.goto 4, 3) := by decide +kernel
theorem dJ9_max_7cf53_9 : decode cJ9_max_7cf53 9 = .ok (.iload_n 1, 1) := by decide +kernel
theorem dJ9_max_7cf53_10 : decode cJ9_max_7cf53 10 = .ok (.ireturn, 1) := by decide +kernel
theorem dJ9_min_7cf53_0 : decode cJ9_min_7cf53 0 = .ok (.iload_n 0, 1) := by decide +kernel
theorem dJ9_min_7cf53_1 : decode cJ9_min_7cf53 1 = .ok (.iload_n 1, 1) := by decide +kernel
theorem dJ9_min_7cf53_2 : decode cJ9_min_7cf53 2 = .ok (.if_icmp .gt 7, 3) := by decide +kernel
theorem dJ9_min_7cf53_5 : decode cJ9_min_7cf53 5 = .ok (.iload_n 0, 1) := by decide +kernel
theorem dJ9_min_7cf53_6 : decode cJ9_min_7cf53 6 = .ok (.goto 4, 3) := by decide +kernel
theorem dJ9_min_7cf53_9 : decode cJ9_min_7cf53 9 = .ok (.iload_n 1, 1) := by decide +kernel
theorem dJ9_min_7cf53_10 : decode cJ9_min_7cf53 10 = .ok (.ireturn, 1) := by decide +kernel
set_option maxRecDepth 20000 in
theorem ggJ0_length_8abf5_J0_coder_7d493 : GoodIn wsJ0_length_8abf5 wsJ0_coder_7d493 := goodIn_r _ [6, 7, 8] (by decide +kernel) (by decide +kernel)
set_option maxRecDepth 20000 in
theorem gJ0_length_8abf5_J0_coder_7d493 : GoodIn wsJ0_length_8abf5 (wsV RJ0 335 RJ0 yJ0_coder_7d493 wsJ0_coder_7d493) := goodIn_app (goodIn_of _ (by decide +kernel)) ggJ0_length_8abf5_J0_coder_7d493
theorem dJ0_length_8abf5_0 : decode cJ0_length_8abf5 0 = .ok (.aload_n 0, 1) := by decide +kernel
theorem dJ0_length_8abf5_1 : decode cJ0_length_8abf5 1 = .ok (.getfield 9, 3) := by decide +kernel
theorem dJ0_length_8abf5_4 : decode cJ0_length_8abf5 4 = .ok (.arraylength, 1) := by decide +kernel
theorem dJ0_length_8abf5_5 : decode cJ0_length_8abf5 5 = .ok (.aload_n 0, 1) := by decide +kernel
theorem dJ0_length_8abf5_6 : decode cJ0_length_8abf5 6 = .ok (.invokevirtual 335, 3) := by decide +kernel
theorem dJ0_length_8abf5_9 : decode cJ0_length_8abf5 9 = .ok (.ishr, 1) := by decide +kernel
theorem dJ0_length_8abf5_10 : decode cJ0_length_8abf5 10 = .ok (.ireturn, 1) := by decide +kernel
set_option maxRecDepth 20000 in
theorem ggJ0_indexOf_0f7a4_J0_indexOf_7cf53 : GoodIn wsJ0_indexOf_0f7a4 wsJ0_indexOf_7cf53 := goodIn_r _ [5, 6, 7, 8, 9, 4, 10, 11, 12, 13, 14, 15, 16, 17, 18, 19, 20, 21, 22, 23, 24, 25, 26, 27, 28, 29, 30, 31, 32, 33, 34, 35, 36, 37, 38, 39, 40, 41, 42, 43, 44, 45, 46, 47, 48, 49, 50, 51, 52, 53, 54, 55, 56, 57, 58, 59, 60, 61, 62, 63, 64, 65, 66, 67, 68, 69, 70, 71, 72, 73, 74, 75, 76, 77, 78, 79, 80, 81, 82, 83, 84, 85] (by decide +kernel) (by decide +kernel)
set_option maxRecDepth 20000 in
theorem gJ0_indexOf_0f7a4_J0_indexOf_7cf53 : GoodIn wsJ0_indexOf_0f7a4 (wsV RJ0 633 RJ0 yJ0_indexOf_7cf53 wsJ0_indexOf_7cf53) := goodIn_app (goodIn_of _ (by decide +kernel)) ggJ0_indexOf_0f7a4_J0_indexOf_7cf53
theorem dJ0_indexOf_0f7a4_0 : decode cJ0_indexOf_0f7a4 0 = .ok (.aload_n 0, 1) := by decide +kernel
theorem dJ0_indexOf_0f7a4_1 : decode cJ0_indexOf_0f7a4 1 = .ok (.iload_n 1, 1) := by decide +kernel
theorem dJ0_indexOf_0f7a4_2 : decode cJ0_indexOf_0f7a4 2 = .ok (.iconst 0, 1) := by decide +kernel
theorem dJ0_indexOf_0f7a4_3 : decode cJ0_indexOf_0f7a4 3 = .ok (.invokevirtual 633, 3) := by decide +kernel
theorem dJ0_indexOf_0f7a4_6 : decode cJ0_indexOf_0f7a4 6 = .ok (.ireturn, 1) := by decide +kernel
set_option maxRecDepth 20000 in
theorem ggJ0_indexOf_7cf53_J0_isLatin1_aae02 : GoodIn wsJ0_indexOf_7cf53 wsJ0_isLatin1_aae02 := goodIn_r _ [6, 7, 8] (by decide +kernel) (by decide +kernel)
set_option maxRecDepth 20000 in
theorem gJ0_indexOf_7cf53_J0_isLatin1_aae02 : GoodIn wsJ0_indexOf_7cf53 (wsV RJ0 492 RJ0 yJ0_isLatin1_aae02 wsJ0_isLatin1_aae02) := goodIn_app (goodIn_of _ (by decide +kernel)) ggJ0_indexOf_7cf53_J0_isLatin1_aae02
set_option maxRecDepth 20000 in
theorem ggJ0_indexOf_7cf53_J0_length_8abf5 : GoodIn wsJ0_indexOf_7cf53 wsJ0_length_8abf5 := goodIn_r _ [12, 1, 13, 14, 15, 5, 16, 7, 8] (by decide +kernel) (by decide +kernel)
set_option maxRecDepth 20000 in
theorem gJ0_indexOf_7cf53_J0_length_8abf5 : GoodIn wsJ0_indexOf_7cf53 (wsV RJ0 505 RJ0 yJ0_length_8abf5 wsJ0_length_8abf5) := goodIn_app (goodIn_of _ (by decide +kernel)) ggJ0_indexOf_7cf53_J0_length_8abf5
set_option maxRecDepth 20000 in
theorem ggJ0_indexOf_7cf53_J1_indexOf_4cfef : GoodIn wsJ0_indexOf_7cf53 wsJ1_indexOf_4cfef := goodIn_r _ [20, 21, 22, 23, 24, 25, 26, 27, 28, 29, 19, 30, 31, 32, 33] (by decide +kernel) (by decide +kernel)
set_option maxRecDepth 20000 in
theorem gJ0_indexOf_7cf53_J1_indexOf_4cfef : GoodIn wsJ0_indexOf_7cf53 (va_wsS RJ0 637 yJ1_indexOf_4cfef wsJ1_indexOf_4cfef) := goodIn_app (goodIn_of _ (by decide +kernel)) ggJ0_indexOf_7cf53_J1_indexOf_4cfef
set_option maxRecDepth 20000 in
theorem ggJ0_indexOf_7cf53_J2_indexOf_4cfef : GoodIn wsJ0_indexOf_7cf53 wsJ2_indexOf_4cfef := goodIn_r _ [37, 38, 22, 23, 24, 39, 26, 27, 40, 41, 42, 36, 43, 44, 45, 46, 47, 48, 49, 50, 51, 5, 52, 53, 54, 55, 56, 57, 58, 59, 60, 61, 62, 63, 64, 65, 66, 67, 68, 69, 70, 71, 72, 73, 74, 75, 76, 77, 78, 79, 80, 81] (by decide +kernel) (by decide +kernel)
set_option maxRecDepth 20000 in
theorem gJ0_indexOf_7cf53_J2_indexOf_4cfef : GoodIn wsJ0_indexOf_7cf53 (va_wsS RJ0 640 yJ2_indexOf_4cfef wsJ2_indexOf_4cfef) := goodIn_app (goodIn_of _ (by decide +kernel)) ggJ0_indexOf_7cf53_J2_indexOf_4cfef
theorem dJ0_indexOf_7cf53_0 : decode cJ0_indexOf_7cf53 0 = .ok (.aload_n 0, 1) := by decide +kernel
theorem dJ0_indexOf_7cf53_1 : decode cJ0_indexOf_7cf53 1 = .ok (.invokevirtual 492, 3) := by decide +kernel
theorem dJ0_indexOf_7cf53_4 : decode cJ0_indexOf_7cf53 4 = .ok (.ifCond .eq 19, 3) := by decide +kernel
theorem dJ0_indexOf_7cf53_7 : decode cJ0_indexOf_7cf53 7 = .ok (.aload_n 0, 1) := by decide +kernel
theorem dJ0_indexOf_7cf53_8 : decode cJ0_indexOf_7cf53 8 = .ok (.getfield 9, 3) := by decide +kernel
theorem dJ0_indexOf_7cf53_11 : decode cJ0_indexOf_7cf53 11 = .ok (.iload_n 1, 1) := by decide +kernel
theorem dJ0_indexOf_7cf53_12 : decode cJ0_indexOf_7cf53 12 = .ok (.iload_n 2, 1) := by decide +kernel
theorem dJ0_indexOf_7cf53_13 : decode cJ0_indexOf_7cf53 13 = .ok (.aload_n 0, 1) := by decide +kernel
theorem dJ0_indexOf_7cf53_14 : decode cJ0_indexOf_7cf53 14 = .ok (.invokevirtual 505, 3) := by decide +kernel
theorem dJ0_indexOf_7cf53_17 : decode cJ0_indexOf_7cf53 17 = .ok (.invokestatic 637, 3) := by decide +kernel
theorem dJ0_indexOf_7cf53_20 : decode cJ0_indexOf_7cf53 20 = .ok (.goto 16, 3) := by decide +kernel
theorem dJ0_indexOf_7cf53_23 : decode cJ0_indexOf_7cf53 23 = .ok (.aload_n 0, 1) := by decide +kernel
theorem dJ0_indexOf_7cf53_24 : decode cJ0_indexOf_7cf53 24 = .ok (.getfield 9, 3) := by decide +kernel
theorem dJ0_indexOf_7cf53_27 : decode cJ0_indexOf_7cf53 27 = .ok (.iload_n 1, 1) := by decide +kernel
theorem dJ0_indexOf_7cf53_28 : decode cJ0_indexOf_7cf53 28 = .ok (.iload_n 2, 1) := by decide +kernel
theorem dJ0_indexOf_7cf53_29 : decode cJ0_indexOf_7cf53 29 = .ok (.aload_n 0, 1) := by decide +kernel
theorem dJ0_indexOf_7cf53_30 : decode cJ0_indexOf_7cf53 30 = .ok (.invokevirtual 505, 3) := by decide +kernel
theorem dJ0_indexOf_7cf53_33 : decode cJ0_indexOf_7cf53 33 = .ok (.invokestatic 640, 3) := by decide +kernel
theorem dJ0_indexOf_7cf53_36 : decode cJ0_indexOf_7cf53 36 = .ok (.ireturn, 1) := by decide +kernel
theorem dJ0_coder_7d493_0 : decode cJ0_coder_7d493 0 = .ok (.getstatic 38, 3) := by decide +kernel
theorem dJ0_coder_7d493_3 : decode cJ0_coder_7d493 3 = .ok (.ifCond .eq 10, 3) := by decide +kernel
theorem dJ0_coder_7d493_6 : decode cJ0_coder_7d493 6 = .ok (.aload_n 0, 1) := by decide +kernel
theorem dJ0_coder_7d493_7 : decode cJ0_coder_7d493 7 = .ok (.getfield 15, 3) := by decide +kernel
theorem dJ0_coder_7d493_10 : decode cJ0_coder_7d493 10 = .ok (.goto 4, 3) := by decide +kernel
theorem dJ0_coder_7d493_13 : decode cJ0_coder_7d493 13 = .ok (.iconst 1, 1) := by decide +kernel
theorem dJ0_coder_7d493_14 : decode cJ0_coder_7d493 14 = .ok (.ireturn, 1) := by decide +kernel
theorem dJ0_isLatin1_aae02_0 : decode cJ0_isLatin1_aae02 0 = .ok (.getstatic 38, 3) := by decide +kernel
theorem dJ0_isLatin1_aae02_3 : decode cJ0_isLatin1_aae02 3 = .ok (.ifCond .eq 14, 3) := by decide +kernel
theorem dJ0_isLatin1_aae02_6 : decode cJ0_isLatin1_aae02 6 = .ok (.aload_n 0, 1) := by decide +kernel
theorem dJ0_isLatin1_aae02_7 : decode cJ0_isLatin1_aae02 7 = .ok (.getfield 15, 3) := by decide +kernel
theorem dJ0_isLatin1_aae02_10 : decode cJ0_isLatin1_aae02 10 = .ok (.ifCond .ne 7, 3) := by decide +kernel
theorem dJ0_isLatin1_aae02_13 : decode cJ0_isLatin1_aae02 13 = .ok (.iconst 1, 1) := by decide +kernel
theorem dJ0_isLatin1_aae02_14 : decode cJ0_isLatin1_aae02 14 = .ok (.goto 4, 3) := by decide +kernel
theorem dJ0_isLatin1_aae02_17 : decode cJ0_isLatin1_aae02 17 = .ok (.iconst 0, 1) := by decide +kernel
theorem dJ0_isLatin1_aae02_18 : decode cJ0_isLatin1_aae02 18 = .ok (.ireturn, 1) := by decide +kernel
set_option maxRecDepth 20000 in
theorem ggJ0_checkBoundsBeginEnd_23922_J3_checkFromToIndex_8c36e : GoodIn wsJ0_checkBoundsBeginEnd_23922 wsJ3_checkFromToIndex_8c36e := goodIn_r _ [5] (by decide +kernel) (by decide +kernel)
set_option maxRecDepth 20000 in
theorem gJ0_checkBoundsBeginEnd_23922_J3_checkFromToIndex_8c36e : GoodIn wsJ0_checkBoundsBeginEnd_23922 (va_wsS RJ0 1062 yJ3_checkFromToIndex_8c36e wsJ3_checkFromToIndex_8c36e) := goodIn_app (goodIn_of _ (by decide +kernel)) ggJ0_checkBoundsBeginEnd_23922_J3_checkFromToIndex_8c36e
theorem dJ0_checkBoundsBeginEnd_23922_0 : decode cJ0_checkBoundsBeginEnd_23922 0 = .ok (.iload_n 0, 1) := by decide +kernel
theorem dJ0_checkBoundsBeginEnd_23922_1 : decode cJ0_checkBoundsBeginEnd_23922 1 = .ok (.iload_n 1, 1) := by decide +kernel
theorem dJ0_checkBoundsBeginEnd_23922_2 : decode cJ0_checkBoundsBeginEnd_23922 2 = .ok (.iload_n 2, 1) := by decide +kernel
theorem dJ0_checkBoundsBeginEnd_23922_3 : decode cJ0_checkBoundsBeginEnd_23922 3 = .ok (.getstatic 1053, 3) := by decide +kernel
theorem dJ0_checkBoundsBeginEnd_23922_6 : decode cJ0_checkBoundsBeginEnd_23922 6 = .ok (.invokestatic 1062, 3) := by decide +kernel
theorem dJ0_checkBoundsBeginEnd_23922_9 : decode cJ0_checkBoundsBeginEnd_23922 9 = .ok (.pop, 1) := by decide +kernel
theorem dJ0_checkBoundsBeginEnd_23922_10 : decode cJ0_checkBoundsBeginEnd_23922 10 = .ok (.return_, 1) := by decide +kernel
theorem dJ1_canEncode_9a6ad_0 : decode cJ1_canEncode_9a6ad 0 = .ok (.iload_n 0, 1) := by decide +kernel
theorem dJ1_canEncode_9a6ad_1 : decode cJ1_canEncode_9a6ad 1 = .ok (.ifCond .lt 14, 3) := by decide +kernel
theorem dJ1_canEncode_9a6ad_4 : decode cJ1_canEncode_9a6ad 4 = .ok (.iload_n 0, 1) := by decide +kernel
theorem dJ1_canEncode_9a6ad_5 : decode cJ1_canEncode_9a6ad 5 = .ok (.sipush 255, 3) := by decide +kernel
theorem dJ1_canEncode_9a6ad_8 : decode cJ1_canEncode_9a6ad 8 = .ok (.if_icmp .gt 7, 3) := by decide +kernel
theorem dJ1_canEncode_9a6ad_11 : decode cJ1_canEncode_9a6ad 11 = .ok (.iconst 1, 1) := by decide +kernel
theorem dJ1_canEncode_9a6ad_12 : decode cJ1_canEncode_9a6ad 12 = .ok (.goto 4, 3) := by decide +kernel
theorem dJ1_canEncode_9a6ad_15 : decode cJ1_canEncode_9a6ad 15 = .ok (.iconst 0, 1) := by decide +kernel
theorem dJ1_canEncode_9a6ad_16 : decode cJ1_canEncode_9a6ad 16 = .ok (.ireturn, 1) := by decide +kernel
set_option maxRecDepth 20000 in
theorem ggJ1_indexOf_4cfef_J1_canEncode_9a6ad : GoodIn wsJ1_indexOf_4cfef wsJ1_canEncode_9a6ad := goodIn_r _ [11] (by decide +kernel) (by decide +kernel)
set_option maxRecDepth 20000 in
theorem gJ1_indexOf_4cfef_J1_canEncode_9a6ad : GoodIn wsJ1_indexOf_4cfef (va_wsS RJ1 88 yJ1_canEncode_9a6ad wsJ1_canEncode_9a6ad) := goodIn_app (goodIn_of _ (by decide +kernel)) ggJ1_indexOf_4cfef_J1_canEncode_9a6ad
set_option maxRecDepth 20000 in
theorem ggJ1_indexOf_4cfef_J1_indexOfChar_4cfef : GoodIn wsJ1_indexOf_4cfef wsJ1_indexOfChar_4cfef := goodIn_r _ [14] (by decide +kernel) (by decide +kernel)
set_option maxRecDepth 20000 in
theorem gJ1_indexOf_4cfef_J1_indexOfChar_4cfef : GoodIn wsJ1_indexOf_4cfef (va_wsS RJ1 95 yJ1_indexOfChar_4cfef wsJ1_indexOfChar_4cfef) := goodIn_app (goodIn_of _ (by decide +kernel)) ggJ1_indexOf_4cfef_J1_indexOfChar_4cfef
theorem dJ1_indexOf_4cfef_0 : decode cJ1_indexOf_4cfef 0 = .ok (.iload_n 1, 1) := by decide +kernel
theorem dJ1_indexOf_4cfef_1 : decode cJ1_indexOf_4cfef 1 = .ok (.invokestatic 88, 3) := by decide +kernel
theorem dJ1_indexOf_4cfef_4 : decode cJ1_indexOf_4cfef 4 = .ok (.ifCond .ne 5, 3) := by decide +kernel
theorem dJ1_indexOf_4cfef_7 : decode cJ1_indexOf_4cfef 7 = .ok (.iconst (-1), 1) := by decide +kernel
theorem dJ1_indexOf_4cfef_8 : decode cJ1_indexOf_4cfef 8 = .ok (.ireturn, 1) := by decide +kernel
theorem dJ1_indexOf_4cfef_9 : decode cJ1_indexOf_4cfef 9 = .ok (.iload_n 2, 1) := by decide +kernel
theorem dJ1_indexOf_4cfef_10 : decode cJ1_indexOf_4cfef 10 = .ok (.iconst 0, 1) := by decide +kernel
theorem dJ1_indexOf_4cfef_11 : decode cJ1_indexOf_4cfef 11 = .ok (.invokestatic 92, 3) := by decide +kernel
theorem dJ1_indexOf_4cfef_14 : decode cJ1_indexOf_4cfef 14 = .ok (.istore_n 2, 1) := by decide +kernel
theorem dJ1_indexOf_4cfef_15 : decode cJ1_indexOf_4cfef 15 = .ok (.iload_n 3, 1) := by decide +kernel
theorem dJ1_indexOf_4cfef_16 : decode cJ1_indexOf_4cfef 16 = .ok (.aload_n 0, 1) := by decide +kernel
theorem dJ1_indexOf_4cfef_17 : decode cJ1_indexOf_4cfef 17 = .ok (.arraylength, 1) := by decide +kernel
theorem dJ1_indexOf_4cfef_18 : decode cJ1_indexOf_4cfef 18 = .ok (.invokestatic 38, 3) := by decide +kernel
theorem dJ1_indexOf_4cfef_21 : decode cJ1_indexOf_4cfef 21 = .ok (.istore_n 3, 1) := by decide +kernel
theorem dJ1_indexOf_4cfef_22 : decode cJ1_indexOf_4cfef 22 = .ok (.iload_n 2, 1) := by decide +kernel
theorem dJ1_indexOf_4cfef_23 : decode cJ1_indexOf_4cfef 23 = .ok (.iload_n 3, 1) := by decide +kernel
theorem dJ1_indexOf_4cfef_24 : decode cJ1_indexOf_4cfef 24 = .ok (.if_icmp .lt 5, 3) := by decide +kernel
theorem dJ1_indexOf_4cfef_27 : decode cJ1_indexOf_4cfef 27 = .ok (.iconst (-1), 1) := by decide +kernel
theorem dJ1_indexOf_4cfef_28 : decode cJ1_indexOf_4cfef 28 = .ok (.ireturn, 1) := by decide +kernel
theorem dJ1_indexOf_4cfef_29 : decode cJ1_indexOf_4cfef 29 = .ok (.aload_n 0, 1) := by decide +kernel
theorem dJ1_indexOf_4cfef_30 : decode cJ1_indexOf_4cfef 30 = .ok (.iload_n 1, 1) := by decide +kernel
theorem dJ1_indexOf_4cfef_31 : decode cJ1_indexOf_4cfef 31 = .ok (.iload_n 2, 1) := by decide +kernel
theorem dJ1_indexOf_4cfef_32 : decode cJ1_indexOf_4cfef 32 = .ok (.iload_n 3, 1) := by decide +kernel
theorem dJ1_indexOf_4cfef_33 : decode cJ1_indexOf_4cfef 33 = .ok (.invokestatic 95, 3) := by decide +kernel
theorem dJ1_indexOf_4cfef_36 : decode cJ1_indexOf_4cfef 36 = .ok (.ireturn, 1) := by decide +kernel
theorem dJ1_indexOfChar_4cfef_0 : decode cJ1_indexOfChar_4cfef 0 = .ok (.iload_n 1, 1) := by decide +kernel
theorem dJ1_indexOfChar_4cfef_1 : decode cJ1_indexOfChar_4cfef 1 = .ok (.i2b, 1) := by decide +kernel
theorem dJ1_indexOfChar_4cfef_2 : decode cJ1_indexOfChar_4cfef 2 = .ok (.istore 4, 2) := by decide +kernel
theorem dJ1_indexOfChar_4cfef_4 : decode cJ1_indexOfChar_4cfef 4 = .ok (.iload_n 2, 1) := by decide +kernel
theorem dJ1_indexOfChar_4cfef_5 : decode cJ1_indexOfChar_4cfef 5 = .ok (.istore 5, 2) := by decide +kernel
theorem dJ1_indexOfChar_4cfef_7 : decode cJ1_indexOfChar_4cfef 7 = .ok (.iload 5, 2) := by decide +kernel
theorem dJ1_indexOfChar_4cfef_9 : decode cJ1_indexOfChar_4cfef 9 = .ok (.iload_n 3, 1) := by decide +kernel
theorem dJ1_indexOfChar_4cfef_10 : decode cJ1_indexOfChar_4cfef 10 = .ok (.if_icmp .ge 21, 3) := by decide +kernel
theorem dJ1_indexOfChar_4cfef_13 : decode cJ1_indexOfChar_4cfef 13 = .ok (.aload_n 0, 1) := by decide +kernel
theorem dJ1_indexOfChar_4cfef_14 : decode cJ1_indexOfChar_4cfef 14 = .ok (.iload 5, 2) := by decide +kernel
theorem dJ1_indexOfChar_4cfef_16 : decode cJ1_indexOfChar_4cfef 16 = .ok (.baload, 1) := by decide +kernel
theorem dJ1_indexOfChar_4cfef_17 : decode cJ1_indexOfChar_4cfef 17 = .ok (.iload 4, 2) := by decide +kernel
theorem dJ1_indexOfChar_4cfef_19 : decode cJ1_indexOfChar_4cfef 19 = .ok (.if_icmp .ne 6, 3) := by decide +kernel
theorem dJ1_indexOfChar_4cfef_22 : decode cJ1_indexOfChar_4cfef 22 = .ok (.iload 5, 2) := by decide +kernel
theorem dJ1_indexOfChar_4cfef_24 : decode cJ1_indexOfChar_4cfef 24 = .ok (.ireturn, 1) := by decide +kernel
theorem dJ1_indexOfChar_4cfef_25 : decode cJ1_indexOfChar_4cfef 25 = .ok (.iinc 5 1, 3) := by decide +kernel
theorem dJ1_indexOfChar_4cfef_28 : decode cJ1_indexOfChar_4cfef 28 = .ok (.goto (-21), 3) := by decide +kernel
theorem dJ1_indexOfChar_4cfef_31 : decode cJ1_indexOfChar_4cfef 31 = .ok (.iconst (-1), 1) := by decide +kernel
theorem dJ1_indexOfChar_4cfef_32 : decode cJ1_indexOfChar_4cfef 32 = .ok (.ireturn, 1) := by decide +kernel
set_option maxRecDepth 20000 in
theorem ggJ2_getChar_3b067_J2_length_9d52b : GoodIn wsJ2_getChar_3b067 wsJ2_length_9d52b := goodIn_r _ [7] (by decide +kernel) (by decide +kernel)
set_option maxRecDepth 20000 in
theorem gJ2_getChar_3b067_J2_length_9d52b : GoodIn wsJ2_getChar_3b067 (va_wsS RJ2 48 yJ2_length_9d52b wsJ2_length_9d52b) := goodIn_app (goodIn_of _ (by decide +kernel)) ggJ2_getChar_3b067_J2_length_9d52b
theorem dJ2_getChar_3b067_0 : decode cJ2_getChar_3b067 0 = .ok (.getstatic 44, 3) := by decide +kernel
theorem dJ2_getChar_3b067_3 : decode cJ2_getChar_3b067 3 = .ok (.ifCond .ne 25, 3) := by decide +kernel
theorem dJ2_getChar_3b067_6 : decode cJ2_getChar_3b067 6 = .ok (.iload_n 1, 1) := by decide +kernel
theorem dJ2_getChar_3b067_7 : decode cJ2_getChar_3b067 7 = .ok (.ifCond .lt 11, 3) := by decide +kernel
theorem dJ2_getChar_3b067_10 : decode cJ2_getChar_3b067 10 = .ok (.iload_n 1, 1) := by decide +kernel
theorem dJ2_getChar_3b067_11 : decode cJ2_getChar_3b067 11 = .ok (.aload_n 0, 1) := by decide +kernel
theorem dJ2_getChar_3b067_12 : decode cJ2_getChar_3b067 12 = .ok (.invokestatic 48, 3) := by decide +kernel
theorem dJ2_getChar_3b067_15 : decode cJ2_getChar_3b067 15 = .ok (.if_icmp .lt 13, 3) := by decide +kernel
theorem dJ2_getChar_3b067_18 : decode cJ2_getChar_3b067 18 = .ok (.new 52, 3) := by decide +kernel
theorem dJ2_getChar_3b067_21 : decode cJ2_getChar_3b067 21 = .ok (.dup, 1) := by decide +kernel
theorem dJ2_getChar_3b067_22 : decode cJ2_getChar_3b067 22 = .ok (.ldc 54, 2) := by decide +kernel
theorem dJ2_getChar_3b067_24 : decode cJ2_getChar_3b067 24 = .ok (.invokespecial 56, 3) := by decide +kernel
theorem dJ2_getChar_3b067_27 : decode cJ2_getChar_3b067 27 = .ok (.athrow, 1) := by decide +kernel
theorem dJ2_getChar_3b067_28 : decode cJ2_getChar_3b067 28 = .ok (.iload_n 1, 1) := by decide +kernel
theorem dJ2_getChar_3b067_29 : decode cJ2_getChar_3b067 29 = .ok (.iconst 1, 1) := by decide +kernel
theorem dJ2_getChar_3b067_30 : decode cJ2_getChar_3b067 30 = .ok (.ishl, 1) := by decide +kernel
theorem dJ2_getChar_3b067_31 : decode cJ2_getChar_3b067 31 = .ok (.istore_n 1, 1) := by decide +kernel
theorem dJ2_getChar_3b067_32 : decode cJ2_getChar_3b067 32 = .ok (.aload_n 0, 1) := by decide +kernel
theorem dJ2_getChar_3b067_33 : decode cJ2_getChar_3b067 33 = .ok (.iload_n 1, 1) := by decide +kernel
theorem dJ2_getChar_3b067_34 : decode cJ2_getChar_3b067 34 = .ok (.iinc 1 1, 3) := by decide +kernel
theorem dJ2_getChar_3b067_37 : decode cJ2_getChar_3b067 37 = .ok (.baload, 1) := by decide +kernel
theorem dJ2_getChar_3b067_38 : decode cJ2_getChar_3b067 38 = .ok (.sipush 255, 3) := by decide +kernel
theorem dJ2_getChar_3b067_41 : decode cJ2_getChar_3b067 41 = .ok (.iand, 1) := by decide +kernel
theorem dJ2_getChar_3b067_42 : decode cJ2_getChar_3b067 42 = .ok (.getstatic 59, 3) := by decide +kernel
theorem dJ2_getChar_3b067_45 : decode cJ2_getChar_3b067 45 = .ok (.ishl, 1) := by decide +kernel
theorem dJ2_getChar_3b067_46 : decode cJ2_getChar_3b067 46 = .ok (.aload_n 0, 1) := by decide +kernel
theorem dJ2_getChar_3b067_47 : decode cJ2_getChar_3b067 47 = .ok (.iload_n 1, 1) := by decide +kernel
theorem dJ2_getChar_3b067_48 : decode cJ2_getChar_3b067 48 = .ok (.baload, 1) := by decide +kernel
theorem dJ2_getChar_3b067_49 : decode cJ2_getChar_3b067 49 = .ok (.sipush 255, 3) := by decide +kernel
theorem dJ2_getChar_3b067_52 : decode cJ2_getChar_3b067 52 = .ok (.iand, 1) := by decide +kernel
theorem dJ2_getChar_3b067_53 : decode cJ2_getChar_3b067 53 = .ok (.getstatic 63, 3) := by decide +kernel
theorem dJ2_getChar_3b067_56 : decode cJ2_getChar_3b067 56 = .ok (.ishl, 1) := by decide +kernel
theorem dJ2_getChar_3b067_57 : decode cJ2_getChar_3b067 57 = .ok (.ior, 1) := by decide +kernel
theorem dJ2_getChar_3b067_58 : decode cJ2_getChar_3b067 58 = .ok (.i2c, 1) := by decide +kernel
theorem dJ2_getChar_3b067_59 : decode cJ2_getChar_3b067 59 = .ok (.ireturn, 1) := by decide +kernel
theorem dJ2_length_9d52b_0 : decode cJ2_length_9d52b 0 = .ok (.aload_n 0, 1) := by decide +kernel
theorem dJ2_length_9d52b_1 : decode cJ2_length_9d52b 1 = .ok (.arraylength, 1) := by decide +kernel
theorem dJ2_length_9d52b_2 : decode cJ2_length_9d52b 2 = .ok (.iconst 1, 1) := by decide +kernel
theorem dJ2_length_9d52b_3 : decode cJ2_length_9d52b 3 = .ok (.ishr, 1) := by decide +kernel
theorem dJ2_length_9d52b_4 : decode cJ2_length_9d52b 4 = .ok (.ireturn, 1) := by decide +kernel
set_option maxRecDepth 20000 in
theorem ggJ2_indexOf_4cfef_J2_indexOfChar_4cfef : GoodIn wsJ2_indexOf_4cfef wsJ2_indexOfChar_4cfef := goodIn_r _ [12, 13, 14, 11, 15, 16, 17, 18, 19, 20, 21, 22, 23, 24, 25, 26, 27, 28, 29, 30, 31, 32, 33, 34, 35, 36] (by decide +kernel) (by decide +kernel)
set_option maxRecDepth 20000 in
theorem gJ2_indexOf_4cfef_J2_indexOfChar_4cfef : GoodIn wsJ2_indexOf_4cfef (va_wsS RJ2 228 yJ2_indexOfChar_4cfef wsJ2_indexOfChar_4cfef) := goodIn_app (goodIn_of _ (by decide +kernel)) ggJ2_indexOf_4cfef_J2_indexOfChar_4cfef
set_option maxRecDepth 20000 in
theorem ggJ2_indexOf_4cfef_J2_indexOfSupplementary_4cfef : GoodIn wsJ2_indexOf_4cfef wsJ2_indexOfSupplementary_4cfef := goodIn_r _ [39, 40, 41, 42, 43, 44, 45, 46, 47, 48, 49, 50, 51, 13, 14, 11, 15, 16, 17, 18, 19, 20, 21, 22, 23, 24, 25, 26, 27, 31, 32, 33, 34, 35, 36] (by decide +kernel) (by decide +kernel)
set_option maxRecDepth 20000 in
theorem gJ2_indexOf_4cfef_J2_indexOfSupplementary_4cfef : GoodIn wsJ2_indexOf_4cfef (va_wsS RJ2 232 yJ2_indexOfSupplementary_4cfef wsJ2_indexOfSupplementary_4cfef) := goodIn_app (goodIn_of _ (by decide +kernel)) ggJ2_indexOf_4cfef_J2_indexOfSupplementary_4cfef
theorem dJ2_indexOf_4cfef_0 : decode cJ2_indexOf_4cfef 0 = .ok (.iload_n 2, 1) := by decide +kernel
theorem dJ2_indexOf_4cfef_1 : decode cJ2_indexOf_4cfef 1 = .ok (.iconst 0, 1) := by decide +kernel
theorem dJ2_indexOf_4cfef_2 : decode cJ2_indexOf_4cfef 2 = .ok (.invokestatic 224, 3) := by decide +kernel
theorem dJ2_indexOf_4cfef_5 : decode cJ2_indexOf_4cfef 5 = .ok (.istore_n 2, 1) := by decide +kernel
theorem dJ2_indexOf_4cfef_6 : decode cJ2_indexOf_4cfef 6 = .ok (.iload_n 3, 1) := by decide +kernel
theorem dJ2_indexOf_4cfef_7 : decode cJ2_indexOf_4cfef 7 = .ok (.aload_n 0, 1) := by decide +kernel
theorem dJ2_indexOf_4cfef_8 : decode cJ2_indexOf_4cfef 8 = .ok (.arraylength, 1) := by decide +kernel
theorem dJ2_indexOf_4cfef_9 : decode cJ2_indexOf_4cfef 9 = .ok (.iconst 1, 1) := by decide +kernel
theorem dJ2_indexOf_4cfef_10 : decode cJ2_indexOf_4cfef 10 = .ok (.ishr, 1) := by decide +kernel
theorem dJ2_indexOf_4cfef_11 : decode cJ2_indexOf_4cfef 11 = .ok (.invokestatic 183, 3) := by decide +kernel
theorem dJ2_indexOf_4cfef_14 : decode cJ2_indexOf_4cfef 14 = .ok (.istore_n 3, 1) := by decide +kernel
theorem dJ2_indexOf_4cfef_15 : decode cJ2_indexOf_4cfef 15 = .ok (.iload_n 2, 1) := by decide +kernel
theorem dJ2_indexOf_4cfef_16 : decode cJ2_indexOf_4cfef 16 = .ok (.iload_n 3, 1) := by decide +kernel
theorem dJ2_indexOf_4cfef_17 : decode cJ2_indexOf_4cfef 17 = .ok (.if_icmp .lt 5, 3) := by decide +kernel
theorem dJ2_indexOf_4cfef_20 : decode cJ2_indexOf_4cfef 20 = .ok (.iconst (-1), 1) := by decide +kernel
theorem dJ2_indexOf_4cfef_21 : decode cJ2_indexOf_4cfef 21 = .ok (.ireturn, 1) := by decide +kernel
theorem dJ2_indexOf_4cfef_22 : decode cJ2_indexOf_4cfef 22 = .ok (.iload_n 1, 1) := by decide +kernel
theorem dJ2_indexOf_4cfef_23 : decode cJ2_indexOf_4cfef 23 = .ok (.ldc 227, 2) := by decide +kernel
theorem dJ2_indexOf_4cfef_25 : decode cJ2_indexOf_4cfef 25 = .ok (.if_icmp .ge 11, 3) := by decide +kernel
theorem dJ2_indexOf_4cfef_28 : decode cJ2_indexOf_4cfef 28 = .ok (.aload_n 0, 1) := by decide +kernel
theorem dJ2_indexOf_4cfef_29 : decode cJ2_indexOf_4cfef 29 = .ok (.iload_n 1, 1) := by decide +kernel
theorem dJ2_indexOf_4cfef_30 : decode cJ2_indexOf_4cfef 30 = .ok (.iload_n 2, 1) := by decide +kernel
theorem dJ2_indexOf_4cfef_31 : decode cJ2_indexOf_4cfef 31 = .ok (.iload_n 3, 1) := by decide +kernel
theorem dJ2_indexOf_4cfef_32 : decode cJ2_indexOf_4cfef 32 = .ok (.invokestatic 228, 3) := by decide +kernel
theorem dJ2_indexOf_4cfef_35 : decode cJ2_indexOf_4cfef 35 = .ok (.ireturn, 1) := by decide +kernel
theorem dJ2_indexOf_4cfef_36 : decode cJ2_indexOf_4cfef 36 = .ok (.aload_n 0, 1) := by decide +kernel
theorem dJ2_indexOf_4cfef_37 : decode cJ2_indexOf_4cfef 37 = .ok (.iload_n 1, 1) := by decide +kernel
theorem dJ2_indexOf_4cfef_38 : decode cJ2_indexOf_4cfef 38 = .ok (.iload_n 2, 1) := by decide +kernel
theorem dJ2_indexOf_4cfef_39 : decode cJ2_indexOf_4cfef 39 = .ok (.iload_n 3, 1) := by decide +kernel
theorem dJ2_indexOf_4cfef_40 : decode cJ2_indexOf_4cfef 40 = .ok (.invokestatic 232, 3) := by decide +kernel
theorem dJ2_indexOf_4cfef_43 : decode cJ2_indexOf_4cfef 43 = .ok (.ireturn, 1) := by decide +kernel
set_option maxRecDepth 20000 in
theorem ggJ2_indexOfChar_4cfef_J2_checkBoundsBeginEnd_d044e : GoodIn wsJ2_indexOfChar_4cfef wsJ2_checkBoundsBeginEnd_d044e := goodIn_r _ [4, 5, 6, 3, 7, 8, 9, 10, 11, 12, 13, 14, 15, 16] (by decide +kernel) (by decide +kernel)
set_option maxRecDepth 20000 in
theorem gJ2_indexOfChar_4cfef_J2_checkBoundsBeginEnd_d044e : GoodIn wsJ2_indexOfChar_4cfef (va_wsS RJ2 96 yJ2_checkBoundsBeginEnd_d044e wsJ2_checkBoundsBeginEnd_d044e) := goodIn_app (goodIn_of _ (by decide +kernel)) ggJ2_indexOfChar_4cfef_J2_checkBoundsBeginEnd_d044e
set_option maxRecDepth 20000 in
theorem ggJ2_indexOfChar_4cfef_J2_indexOfCharUnsafe_4cfef : GoodIn wsJ2_indexOfChar_4cfef wsJ2_indexOfCharUnsafe_4cfef := goodIn_r _ [19, 20, 21, 3, 22, 23, 24, 25, 5, 6, 7] (by decide +kernel) (by decide +kernel)
set_option maxRecDepth 20000 in
theorem gJ2_indexOfChar_4cfef_J2_indexOfCharUnsafe_4cfef : GoodIn wsJ2_indexOfChar_4cfef (va_wsS RJ2 244 yJ2_indexOfCharUnsafe_4cfef wsJ2_indexOfCharUnsafe_4cfef) := goodIn_app (goodIn_of _ (by decide +kernel)) ggJ2_indexOfChar_4cfef_J2_indexOfCharUnsafe_4cfef
theorem dJ2_indexOfChar_4cfef_0 : decode cJ2_indexOfChar_4cfef 0 = .ok (.iload_n 2, 1) := by decide +kernel
theorem dJ2_indexOfChar_4cfef_1 : decode cJ2_indexOfChar_4cfef 1 = .ok (.iload_n 3, 1) := by decide +kernel
theorem dJ2_indexOfChar_4cfef_2 : decode cJ2_indexOfChar_4cfef 2 = .ok (.aload_n 0, 1) := by decide +kernel
theorem dJ2_indexOfChar_4cfef_3 : decode cJ2_indexOfChar_4cfef 3 = .ok (.invokestatic 96, 3) := by decide +kernel
theorem dJ2_indexOfChar_4cfef_6 : decode cJ2_indexOfChar_4cfef 6 = .ok (.aload_n 0, 1) := by decide +kernel
theorem dJ2_indexOfChar_4cfef_7 : decode cJ2_indexOfChar_4cfef 7 = .ok (.iload_n 1, 1) := by decide +kernel
theorem dJ2_indexOfChar_4cfef_8 : decode cJ2_indexOfChar_4cfef 8 = .ok (.iload_n 2, 1) := by decide +kernel
theorem dJ2_indexOfChar_4cfef_9 : decode cJ2_indexOfChar_4cfef 9 = .ok (.iload_n 3, 1) := by decide +kernel
theorem dJ2_indexOfChar_4cfef_10 : decode cJ2_indexOfChar_4cfef 10 = .ok (.invokestatic 244, 3) := by decide +kernel
theorem dJ2_indexOfChar_4cfef_13 : decode cJ2_indexOfChar_4cfef 13 = .ok (.ireturn, 1) := by decide +kernel
set_option maxRecDepth 20000 in
theorem ggJ2_indexOfCharUnsafe_4cfef_J2_getChar_3b067 : GoodIn wsJ2_indexOfCharUnsafe_4cfef wsJ2_getChar_3b067 := goodIn_r _ [4, 5, 6, 7, 8, 9, 3, 10] (by decide +kernel) (by decide +kernel)
set_option maxRecDepth 20000 in
theorem gJ2_indexOfCharUnsafe_4cfef_J2_getChar_3b067 : GoodIn wsJ2_indexOfCharUnsafe_4cfef (va_wsS RJ2 71 yJ2_getChar_3b067 wsJ2_getChar_3b067) := goodIn_app (goodIn_of _ (by decide +kernel)) ggJ2_indexOfCharUnsafe_4cfef_J2_getChar_3b067
theorem dJ2_indexOfCharUnsafe_4cfef_0 : decode cJ2_indexOfCharUnsafe_4cfef 0 = .ok (.iload_n 2, 1) := by decide +kernel
theorem dJ2_indexOfCharUnsafe_4cfef_1 : decode cJ2_indexOfCharUnsafe_4cfef 1 = .ok (.istore 4, 2) := by decide +kernel
theorem dJ2_indexOfCharUnsafe_4cfef_3 : decode cJ2_indexOfCharUnsafe_4cfef 3 = .ok (.iload 4, 2) := by decide +kernel
theorem dJ2_indexOfCharUnsafe_4cfef_5 : decode cJ2_indexOfCharUnsafe_4cfef 5 = .ok (.iload_n 3, 1) := by decide +kernel
theorem dJ2_indexOfCharUnsafe_4cfef_6 : decode cJ2_indexOfCharUnsafe_4cfef 6 = .ok (.if_icmp .ge 22, 3) := by decide +kernel
theorem dJ2_indexOfCharUnsafe_4cfef_9 : decode cJ2_indexOfCharUnsafe_4cfef 9 = .ok (.aload_n 0, 1) := by decide +kernel
theorem dJ2_indexOfCharUnsafe_4cfef_10 : decode cJ2_indexOfCharUnsafe_4cfef 10 = .ok (.iload 4, 2) := by decide +kernel
theorem dJ2_indexOfCharUnsafe_4cfef_12 : decode cJ2_indexOfCharUnsafe_4cfef 12 = .ok (.invokestatic 71, 3) := by decide +kernel
theorem dJ2_indexOfCharUnsafe_4cfef_15 : decode cJ2_indexOfCharUnsafe_4cfef 15 = .ok (.iload_n 1, 1) := by decide +kernel
theorem dJ2_indexOfCharUnsafe_4cfef_16 : decode cJ2_indexOfCharUnsafe_4cfef 16 = .ok (.if_icmp .ne 6, 3) := by decide +kernel
theorem dJ2_indexOfCharUnsafe_4cfef_19 : decode cJ2_indexOfCharUnsafe_4cfef 19 = .ok (.iload 4, 2) := by decide +kernel
theorem dJ2_indexOfCharUnsafe_4cfef_21 : decode cJ2_indexOfCharUnsafe_4cfef 21 = .ok (.ireturn, 1) := by decide +kernel
theorem dJ2_indexOfCharUnsafe_4cfef_22 : decode cJ2_indexOfCharUnsafe_4cfef 22 = .ok (.iinc 4 1, 3) := by decide +kernel
theorem dJ2_indexOfCharUnsafe_4cfef_25 : decode cJ2_indexOfCharUnsafe_4cfef 25 = .ok (.goto (-22), 3) := by decide +kernel
theorem dJ2_indexOfCharUnsafe_4cfef_28 : decode cJ2_indexOfCharUnsafe_4cfef 28 = .ok (.iconst (-1), 1) := by decide +kernel
theorem dJ2_indexOfCharUnsafe_4cfef_29 : decode cJ2_indexOfCharUnsafe_4cfef 29 = .ok (.ireturn, 1) := by decide +kernel
set_option maxRecDepth 20000 in
theorem ggJ2_indexOfSupplementary_4cfef_J11_isValidCodePoint_9a6ad : GoodIn wsJ2_indexOfSupplementary_4cfef wsJ11_isValidCodePoint_9a6ad := goodIn_r _ [4] (by decide +kernel) (by decide +kernel)
set_option maxRecDepth 20000 in
theorem gJ2_indexOfSupplementary_4cfef_J11_isValidCodePoint_9a6ad : GoodIn wsJ2_indexOfSupplementary_4cfef (va_wsS RJ2 164 yJ11_isValidCodePoint_9a6ad wsJ11_isValidCodePoint_9a6ad) := goodIn_app (goodIn_of _ (by decide +kernel)) ggJ2_indexOfSupplementary_4cfef_J11_isValidCodePoint_9a6ad
set_option maxRecDepth 20000 in
theorem ggJ2_indexOfSupplementary_4cfef_J11_highSurrogate_5068e : GoodIn wsJ2_indexOfSupplementary_4cfef wsJ11_highSurrogate_5068e := goodIn_r _ [7, 8] (by decide +kernel) (by decide +kernel)
set_option maxRecDepth 20000 in
theorem gJ2_indexOfSupplementary_4cfef_J11_highSurrogate_5068e : GoodIn wsJ2_indexOfSupplementary_4cfef (va_wsS RJ2 157 yJ11_highSurrogate_5068e wsJ11_highSurrogate_5068e) := goodIn_app (goodIn_of _ (by decide +kernel)) ggJ2_indexOfSupplementary_4cfef_J11_highSurrogate_5068e
set_option maxRecDepth 20000 in
theorem ggJ2_indexOfSupplementary_4cfef_J11_lowSurrogate_5068e : GoodIn wsJ2_indexOfSupplementary_4cfef wsJ11_lowSurrogate_5068e := goodIn_r _ [11, 12] (by decide +kernel) (by decide +kernel)
set_option maxRecDepth 20000 in
theorem gJ2_indexOfSupplementary_4cfef_J11_lowSurrogate_5068e : GoodIn wsJ2_indexOfSupplementary_4cfef (va_wsS RJ2 161 yJ11_lowSurrogate_5068e wsJ11_lowSurrogate_5068e) := goodIn_app (goodIn_of _ (by decide +kernel)) ggJ2_indexOfSupplementary_4cfef_J11_lowSurrogate_5068e
set_option maxRecDepth 20000 in
theorem ggJ2_indexOfSupplementary_4cfef_J2_checkBoundsBeginEnd_d044e : GoodIn wsJ2_indexOfSupplementary_4cfef wsJ2_checkBoundsBeginEnd_d044e := goodIn_r _ [16, 17, 18, 15, 19, 20, 21, 22, 23, 24, 25, 26, 27, 28] (by decide +kernel) (by decide +kernel)
set_option maxRecDepth 20000 in
theorem gJ2_indexOfSupplementary_4cfef_J2_checkBoundsBeginEnd_d044e : GoodIn wsJ2_indexOfSupplementary_4cfef (va_wsS RJ2 96 yJ2_checkBoundsBeginEnd_d044e wsJ2_checkBoundsBeginEnd_d044e) := goodIn_app (goodIn_of _ (by decide +kernel)) ggJ2_indexOfSupplementary_4cfef_J2_checkBoundsBeginEnd_d044e
set_option maxRecDepth 20000 in
theorem ggJ2_indexOfSupplementary_4cfef_J2_getChar_3b067 : GoodIn wsJ2_indexOfSupplementary_4cfef wsJ2_getChar_3b067 := goodIn_r _ [31, 32, 33, 34, 17, 18, 15, 19] (by decide +kernel) (by decide +kernel)
set_option maxRecDepth 20000 in
theorem gJ2_indexOfSupplementary_4cfef_J2_getChar_3b067 : GoodIn wsJ2_indexOfSupplementary_4cfef (va_wsS RJ2 71 yJ2_getChar_3b067 wsJ2_getChar_3b067) := goodIn_app (goodIn_of _ (by decide +kernel)) ggJ2_indexOfSupplementary_4cfef_J2_getChar_3b067
theorem dJ2_indexOfSupplementary_4cfef_0 : decode cJ2_indexOfSupplementary_4cfef 0 = .ok (.iload_n 1, 1) := by decide +kernel
theorem dJ2_indexOfSupplementary_4cfef_1 : decode cJ2_indexOfSupplementary_4cfef 1 = .ok (.invokestatic 164, 3) := by decide +kernel
theorem dJ2_indexOfSupplementary_4cfef_4 : decode cJ2_indexOfSupplementary_4cfef 4 = .ok (.ifCond .eq 65, 3) := by decide +kernel
theorem dJ2_indexOfSupplementary_4cfef_7 : decode cJ2_indexOfSupplementary_4cfef 7 = .ok (.iload_n 1, 1) := by decide +kernel
theorem dJ2_indexOfSupplementary_4cfef_8 : decode cJ2_indexOfSupplementary_4cfef 8 = .ok (.invokestatic 157, 3) := by decide +kernel
theorem dJ2_indexOfSupplementary_4cfef_11 : decode cJ2_indexOfSupplementary_4cfef 11 = .ok (.istore 4, 2) := by decide +kernel
theorem dJ2_indexOfSupplementary_4cfef_13 : decode cJ2_indexOfSupplementary_4cfef 13 = .ok (.iload_n 1, 1) := by decide +kernel
theorem dJ2_indexOfSupplementary_4cfef_14 : decode cJ2_indexOfSupplementary_4cfef 14 = .ok (.invokestatic 161, 3) := by decide +kernel
theorem dJ2_indexOfSupplementary_4cfef_17 : decode cJ2_indexOfSupplementary_4cfef 17 = .ok (.istore 5, 2) := by decide +kernel
theorem dJ2_indexOfSupplementary_4cfef_19 : decode cJ2_indexOfSupplementary_4cfef 19 = .ok (.iload_n 2, 1) := by decide +kernel
theorem dJ2_indexOfSupplementary_4cfef_20 : decode cJ2_indexOfSupplementary_4cfef 20 = .ok (.iload_n 3, 1) := by decide +kernel
theorem dJ2_indexOfSupplementary_4cfef_21 : decode cJ2_indexOfSupplementary_4cfef 21 = .ok (.aload_n 0, 1) := by decide +kernel
theorem dJ2_indexOfSupplementary_4cfef_22 : decode cJ2_indexOfSupplementary_4cfef 22 = .ok (.invokestatic 96, 3) := by decide +kernel
theorem dJ2_indexOfSupplementary_4cfef_25 : decode cJ2_indexOfSupplementary_4cfef 25 = .ok (.iload_n 2, 1) := by decide +kernel
theorem dJ2_indexOfSupplementary_4cfef_26 : decode cJ2_indexOfSupplementary_4cfef 26 = .ok (.istore 6, 2) := by decide +kernel
theorem dJ2_indexOfSupplementary_4cfef_28 : decode cJ2_indexOfSupplementary_4cfef 28 = .ok (.iload 6, 2) := by decide +kernel
theorem dJ2_indexOfSupplementary_4cfef_30 : decode cJ2_indexOfSupplementary_4cfef 30 = .ok (.iload_n 3, 1) := by decide +kernel
theorem dJ2_indexOfSupplementary_4cfef_31 : decode cJ2_indexOfSupplementary_4cfef 31 = .ok (.iconst 1, 1) := by decide +kernel
theorem dJ2_indexOfSupplementary_4cfef_32 : decode cJ2_indexOfSupplementary_4cfef 32 = .ok (.isub, 1) := by decide +kernel
theorem dJ2_indexOfSupplementary_4cfef_33 : decode cJ2_indexOfSupplementary_4cfef 33 = .ok (.if_icmp .ge 36, 3) := by decide +kernel
theorem dJ2_indexOfSupplementary_4cfef_36 : decode cJ2_indexOfSupplementary_4cfef 36 = .ok (.aload_n 0, 1) := by decide +kernel
theorem dJ2_indexOfSupplementary_4cfef_37 : decode cJ2_indexOfSupplementary_4cfef 37 = .ok (.iload 6, 2) := by decide +kernel
theorem dJ2_indexOfSupplementary_4cfef_39 : decode cJ2_indexOfSupplementary_4cfef 39 = .ok (.invokestatic 71, 3) := by decide +kernel
theorem dJ2_indexOfSupplementary_4cfef_42 : decode cJ2_indexOfSupplementary_4cfef 42 = .ok (.iload 4, 2) := by decide +kernel
theorem dJ2_indexOfSupplementary_4cfef_44 : decode cJ2_indexOfSupplementary_4cfef 44 = .ok (.if_icmp .ne 19, 3) := by decide +kernel
theorem dJ2_indexOfSupplementary_4cfef_47 : decode cJ2_indexOfSupplementary_4cfef 47 = .ok (.aload_n 0, 1) := by decide +kernel
theorem dJ2_indexOfSupplementary_4cfef_48 : decode cJ2_indexOfSupplementary_4cfef 48 = .ok (.iload 6, 2) := by decide +kernel
theorem dJ2_indexOfSupplementary_4cfef_50 : decode cJ2_indexOfSupplementary_4cfef 50 = .ok (.iconst 1, 1) := by decide +kernel
theorem dJ2_indexOfSupplementary_4cfef_51 : decode cJ2_indexOfSupplementary_4cfef 51 = .ok (.iadd, 1) := by decide +kernel
theorem dJ2_indexOfSupplementary_4cfef_52 : decode cJ2_indexOfSupplementary_4cfef 52 = .ok (.invokestatic 71, 3) := by decide +kernel
theorem dJ2_indexOfSupplementary_4cfef_55 : decode cJ2_indexOfSupplementary_4cfef 55 = .ok (.iload 5, 2) := by decide +kernel
theorem dJ2_indexOfSupplementary_4cfef_57 : decode cJ2_indexOfSupplementary_4cfef 57 = .ok (.if_icmp .ne 6, 3) := by decide +kernel
theorem dJ2_indexOfSupplementary_4cfef_60 : decode cJ2_indexOfSupplementary_4cfef 60 = .ok (.iload 6, 2) := by decide +kernel
theorem dJ2_indexOfSupplementary_4cfef_62 : decode cJ2_indexOfSupplementary_4cfef 62 = .ok (.ireturn, 1) := by decide +kernel
theorem dJ2_indexOfSupplementary_4cfef_63 : decode cJ2_indexOfSupplementary_4cfef 63 = .ok (.iinc 6 1, 3) := by decide +kernel
theorem dJ2_indexOfSupplementary_4cfef_66 : decode cJ2_indexOfSupplementary_4cfef 66 = .ok (.goto (-38), 3) := by decide +kernel
theorem dJ2_indexOfSupplementary_4cfef_69 : decode cJ2_indexOfSupplementary_4cfef 69 = .ok (.iconst (-1), 1) := by decide +kernel
theorem dJ2_indexOfSupplementary_4cfef_70 : decode cJ2_indexOfSupplementary_4cfef 70 = .ok (.ireturn, 1) := by decide +kernel
set_option maxRecDepth 20000 in
theorem ggJ2_checkBoundsBeginEnd_d044e_J2_length_9d52b : GoodIn wsJ2_checkBoundsBeginEnd_d044e wsJ2_length_9d52b := goodIn_r _ [4] (by decide +kernel) (by decide +kernel)
set_option maxRecDepth 20000 in
theorem gJ2_checkBoundsBeginEnd_d044e_J2_length_9d52b : GoodIn wsJ2_checkBoundsBeginEnd_d044e (va_wsS RJ2 48 yJ2_length_9d52b wsJ2_length_9d52b) := goodIn_app (goodIn_of _ (by decide +kernel)) ggJ2_checkBoundsBeginEnd_d044e_J2_length_9d52b
set_option maxRecDepth 20000 in
theorem ggJ2_checkBoundsBeginEnd_d044e_J0_checkBoundsBeginEnd_23922 : GoodIn wsJ2_checkBoundsBeginEnd_d044e wsJ0_checkBoundsBeginEnd_23922 := goodIn_r _ [8, 9, 10, 11, 12, 13] (by decide +kernel) (by decide +kernel)
set_option maxRecDepth 20000 in
theorem gJ2_checkBoundsBeginEnd_d044e_J0_checkBoundsBeginEnd_23922 : GoodIn wsJ2_checkBoundsBeginEnd_d044e (va_wsS RJ2 241 yJ0_checkBoundsBeginEnd_23922 wsJ0_checkBoundsBeginEnd_23922) := goodIn_app (goodIn_of _ (by decide +kernel)) ggJ2_checkBoundsBeginEnd_d044e_J0_checkBoundsBeginEnd_23922
theorem dJ2_checkBoundsBeginEnd_d044e_0 : decode cJ2_checkBoundsBeginEnd_d044e 0 = .ok (.iload_n 0, 1) := by decide +kernel
theorem dJ2_checkBoundsBeginEnd_d044e_1 : decode cJ2_checkBoundsBeginEnd_d044e 1 = .ok (.iload_n 1, 1) := by decide +kernel
theorem dJ2_checkBoundsBeginEnd_d044e_2 : decode cJ2_checkBoundsBeginEnd_d044e 2 = .ok (.aload_n 2, 1) := by decide +kernel
theorem dJ2_checkBoundsBeginEnd_d044e_3 : decode cJ2_checkBoundsBeginEnd_d044e 3 = .ok (.invokestatic 48, 3) := by decide +kernel
theorem dJ2_checkBoundsBeginEnd_d044e_6 : decode cJ2_checkBoundsBeginEnd_d044e 6 = .ok (.invokestatic 241, 3) := by decide +kernel
theorem dJ2_checkBoundsBeginEnd_d044e_9 : decode cJ2_checkBoundsBeginEnd_d044e 9 = .ok (.return_, 1) := by decide +kernel
theorem dJxa1e45_init_da8c8_0 : decode cJxa1e45_init_da8c8 0 = .ok (.aload_n 0, 1) := by decide +kernel
theorem dJxa1e45_init_da8c8_1 : decode cJxa1e45_init_da8c8 1 = .ok (.invokespecial 1, 3) := by decide +kernel
theorem dJxa1e45_init_da8c8_4 : decode cJxa1e45_init_da8c8 4 = .ok (.return_, 1) := by decide +kernel
set_option maxRecDepth 20000 in
theorem ggJxc12de_init_da8c8_Jxa1e45_init_da8c8 : GoodIn wsJxc12de_init_da8c8 wsJxa1e45_init_da8c8 := goodIn_r _ [5, 6, 7, 8] (by decide +kernel) (by decide +kernel)
set_option maxRecDepth 20000 in
theorem gJxc12de_init_da8c8_Jxa1e45_init_da8c8 : GoodIn wsJxc12de_init_da8c8 (wsJxa1e45_init_da8c8) := ggJxc12de_init_da8c8_Jxa1e45_init_da8c8
theorem dJxc12de_init_da8c8_0 : decode cJxc12de_init_da8c8 0 = .ok (.aload_n 0, 1) := by decide +kernel
theorem dJxc12de_init_da8c8_1 : decode cJxc12de_init_da8c8 1 = .ok (.invokespecial 1, 3) := by decide +kernel
theorem dJxc12de_init_da8c8_4 : decode cJxc12de_init_da8c8 4 = .ok (.aload_n 0, 1) := by decide +kernel
theorem dJxc12de_init_da8c8_5 : decode cJxc12de_init_da8c8 5 = .ok (.iconst 0, 1) := by decide +kernel
theorem dJxc12de_init_da8c8_6 : decode cJxc12de_init_da8c8 6 = .ok (.putfield 7, 3) := by decide +kernel
theorem dJxc12de_init_da8c8_9 : decode cJxc12de_init_da8c8 9 = .ok (.return_, 1) := by decide +kernel
set_option maxRecDepth 20000 in
theorem ggJx4a65c_init_da8c8_Jxc12de_init_da8c8 : GoodIn wsJx4a65c_init_da8c8 wsJxc12de_init_da8c8 := goodIn_r _ [6, 7, 8, 9, 10, 11, 12, 13, 14, 15, 16, 17] (by decide +kernel) (by decide +kernel)
set_option maxRecDepth 20000 in
theorem gJx4a65c_init_da8c8_Jxc12de_init_da8c8 : GoodIn wsJx4a65c_init_da8c8 (wsJxc12de_init_da8c8) := ggJx4a65c_init_da8c8_Jxc12de_init_da8c8
theorem dJx4a65c_init_da8c8_0 : decode cJx4a65c_init_da8c8 0 = .ok (.aload_n 0, 1) := by decide +kernel
theorem dJx4a65c_init_da8c8_1 : decode cJx4a65c_init_da8c8 1 = .ok (.invokespecial 1, 3) := by decide +kernel
theorem dJx4a65c_init_da8c8_4 : decode cJx4a65c_init_da8c8 4 = .ok (.aload_n 0, 1) := by decide +kernel
theorem dJx4a65c_init_da8c8_5 : decode cJx4a65c_init_da8c8 5 = .ok (.getstatic 39, 3) := by decide +kernel
theorem dJx4a65c_init_da8c8_8 : decode cJx4a65c_init_da8c8 8 = .ok (.putfield 9, 3) := by decide +kernel
theorem dJx4a65c_init_da8c8_11 : decode cJx4a65c_init_da8c8 11 = .ok (.return_, 1) := by decide +kernel
set_option maxRecDepth 20000 in
theorem ggJx4a65c_grow_92f84_J8_newLength_cabcc : GoodIn wsJx4a65c_grow_92f84 wsJ8_newLength_cabcc := goodIn_r _ [11, 12, 4, 5, 6, 13, 14, 15, 10, 16] (by decide +kernel) (by decide +kernel)
set_option maxRecDepth 20000 in
theorem gJx4a65c_grow_92f84_J8_newLength_cabcc : GoodIn wsJx4a65c_grow_92f84 (va_wsS RJx4a65c 73 yJ8_newLength_cabcc wsJ8_newLength_cabcc) := goodIn_app (goodIn_of _ (by decide +kernel)) ggJx4a65c_grow_92f84_J8_newLength_cabcc
set_option maxRecDepth 20000 in
theorem ggJx4a65c_grow_92f84_J7_copyOf_1904c : GoodIn wsJx4a65c_grow_92f84 wsJ7_copyOf_1904c := goodIn_r _ [20, 21, 22, 23, 24, 25, 26, 19, 27, 28, 29, 30, 31, 5, 32, 33, 34, 35, 36] (by decide +kernel) (by decide +kernel)
set_option maxRecDepth 20000 in
theorem gJx4a65c_grow_92f84_J7_copyOf_1904c : GoodIn wsJx4a65c_grow_92f84 (va_wsS RJx4a65c 66 yJ7_copyOf_1904c wsJ7_copyOf_1904c) := goodIn_app (goodIn_of _ (by decide +kernel)) ggJx4a65c_grow_92f84_J7_copyOf_1904c
theorem dJx4a65c_grow_92f84_0 : decode cJx4a65c_grow_92f84 0 = .ok (.aload_n 0, 1) := by decide +kernel
theorem dJx4a65c_grow_92f84_1 : decode cJx4a65c_grow_92f84 1 = .ok (.getfield 9, 3) := by decide +kernel
theorem dJx4a65c_grow_92f84_4 : decode cJx4a65c_grow_92f84 4 = .ok (.arraylength, 1) := by decide +kernel
theorem dJx4a65c_grow_92f84_5 : decode cJx4a65c_grow_92f84 5 = .ok (.istore_n 2, 1) := by decide +kernel
theorem dJx4a65c_grow_92f84_6 : decode cJx4a65c_grow_92f84 6 = .ok (.iload_n 2, 1) := by decide +kernel
theorem dJx4a65c_grow_92f84_7 : decode cJx4a65c_grow_92f84 7 = .ok (.ifCond .gt 13, 3) := by decide +kernel
theorem dJx4a65c_grow_92f84_10 : decode cJx4a65c_grow_92f84 10 = .ok (.aload_n 0, 1) := by decide +kernel
theorem dJx4a65c_grow_92f84_11 : decode cJx4a65c_grow_92f84 11 = .ok (.getfield 9, 3) := by decide +kernel
theorem dJx4a65c_grow_92f84_14 : decode cJx4a65c_grow_92f84 14 = .ok (.getstatic 39, 3) := by decide +kernel
theorem dJx4a65c_grow_92f84_17 : decode cJx4a65c_grow_92f84 17 = .ok (.if_acmp .eq 28, 3) := by decide +kernel
theorem dJx4a65c_grow_92f84_20 : decode cJx4a65c_grow_92f84 20 = .ok (.iload_n 2, 1) := by decide +kernel
theorem dJx4a65c_grow_92f84_21 : decode cJx4a65c_grow_92f84 21 = .ok (.iload_n 1, 1) := by decide +kernel
theorem dJx4a65c_grow_92f84_22 : decode cJx4a65c_grow_92f84 22 = .ok (.iload_n 2, 1) := by decide +kernel
theorem dJx4a65c_grow_92f84_23 : decode cJx4a65c_grow_92f84 23 = .ok (.isub, 1) := by decide +kernel
theorem dJx4a65c_grow_92f84_24 : decode cJx4a65c_grow_92f84 24 = .ok (.iload_n 2, 1) := by decide +kernel
theorem dJx4a65c_grow_92f84_25 : decode cJx4a65c_grow_92f84 25 = .ok (.iconst 1, 1) := by decide +kernel
theorem dJx4a65c_grow_92f84_26 : decode cJx4a65c_grow_92f84 26 = .ok (.ishr, 1) := by decide +kernel
theorem dJx4a65c_grow_92f84_27 : decode cJx4a65c_grow_92f84 27 = .ok (.invokestatic 73, 3) := by decide +kernel
theorem dJx4a65c_grow_92f84_30 : decode cJx4a65c_grow_92f84 30 = .ok (.istore_n 3, 1) := by decide +kernel
theorem dJx4a65c_grow_92f84_31 : decode cJx4a65c_grow_92f84 31 = .ok (.aload_n 0, 1) := by decide +kernel
theorem dJx4a65c_grow_92f84_32 : decode cJx4a65c_grow_92f84 32 = .ok (.aload_n 0, 1) := by decide +kernel
theorem dJx4a65c_grow_92f84_33 : decode cJx4a65c_grow_92f84 33 = .ok (.getfield 9, 3) := by decide +kernel
theorem dJx4a65c_grow_92f84_36 : decode cJx4a65c_grow_92f84 36 = .ok (.iload_n 3, 1) := by decide +kernel
theorem dJx4a65c_grow_92f84_37 : decode cJx4a65c_grow_92f84 37 = .ok (.invokestatic 66, 3) := by decide +kernel
theorem dJx4a65c_grow_92f84_40 : decode cJx4a65c_grow_92f84 40 = .ok (.dup_x1, 1) := by decide +kernel
theorem dJx4a65c_grow_92f84_41 : decode cJx4a65c_grow_92f84 41 = .ok (.putfield 9, 3) := by decide +kernel
theorem dJx4a65c_grow_92f84_44 : decode cJx4a65c_grow_92f84 44 = .ok (.areturn, 1) := by decide +kernel
theorem dJx4a65c_grow_92f84_45 : decode cJx4a65c_grow_92f84 45 = .ok (.aload_n 0, 1) := by decide +kernel
theorem dJx4a65c_grow_92f84_46 : decode cJx4a65c_grow_92f84 46 = .ok (.bipush 10, 2) := by decide +kernel
theorem dJx4a65c_grow_92f84_48 : decode cJx4a65c_grow_92f84 48 = .ok (.iload_n 1, 1) := by decide +kernel
theorem dJx4a65c_grow_92f84_49 : decode cJx4a65c_grow_92f84 49 = .ok (.invokestatic 79, 3) := by decide +kernel
theorem dJx4a65c_grow_92f84_52 : decode cJx4a65c_grow_92f84 52 = .ok (.anewarray 7, 3) := by decide +kernel
theorem dJx4a65c_grow_92f84_55 : decode cJx4a65c_grow_92f84 55 = .ok (.dup_x1, 1) := by decide +kernel
theorem dJx4a65c_grow_92f84_56 : decode cJx4a65c_grow_92f84 56 = .ok (.putfield 9, 3) := by decide +kernel
theorem dJx4a65c_grow_92f84_59 : decode cJx4a65c_grow_92f84 59 = .ok (.areturn, 1) := by decide +kernel
set_option maxRecDepth 20000 in
theorem ggJx4a65c_grow_d5877_Jx4a65c_grow_92f84 : GoodIn wsJx4a65c_grow_d5877 wsJx4a65c_grow_92f84 := goodIn_r _ [6, 7, 8, 9, 10, 11, 12, 13, 14, 15, 16, 17, 18, 19, 20, 21, 22, 23, 24, 25, 26, 27, 28, 29, 30, 31, 32, 33, 34, 35, 36, 37, 38, 39, 40, 41, 42, 43, 44, 45] (by decide +kernel) (by decide +kernel)
set_option maxRecDepth 20000 in
theorem gJx4a65c_grow_d5877_Jx4a65c_grow_92f84 : GoodIn wsJx4a65c_grow_d5877 (wsV RJx4a65c 69 RJx4a65c yJx4a65c_grow_92f84 wsJx4a65c_grow_92f84) := goodIn_app (goodIn_of _ (by decide +kernel)) ggJx4a65c_grow_d5877_Jx4a65c_grow_92f84
theorem dJx4a65c_grow_d5877_0 : decode cJx4a65c_grow_d5877 0 = .ok (.aload_n 0, 1) := by decide +kernel
theorem dJx4a65c_grow_d5877_1 : decode cJx4a65c_grow_d5877 1 = .ok (.aload_n 0, 1) := by decide +kernel
theorem dJx4a65c_grow_d5877_2 : decode cJx4a65c_grow_d5877 2 = .ok (.getfield 48, 3) := by decide +kernel
theorem dJx4a65c_grow_d5877_5 : decode cJx4a65c_grow_d5877 5 = .ok (.iconst 1, 1) := by decide +kernel
theorem dJx4a65c_grow_d5877_6 : decode cJx4a65c_grow_d5877 6 = .ok (.iadd, 1) := by decide +kernel
theorem dJx4a65c_grow_d5877_7 : decode cJx4a65c_grow_d5877 7 = .ok (.invokevirtual 69, 3) := by decide +kernel
theorem dJx4a65c_grow_d5877_10 : decode cJx4a65c_grow_d5877 10 = .ok (.areturn, 1) := by decide +kernel
theorem dJx4a65c_size_8abf5_0 : decode cJx4a65c_size_8abf5 0 = .ok (.aload_n 0, 1) := by decide +kernel
theorem dJx4a65c_size_8abf5_1 : decode cJx4a65c_size_8abf5 1 = .ok (.getfield 48, 3) := by decide +kernel
theorem dJx4a65c_size_8abf5_4 : decode cJx4a65c_size_8abf5 4 = .ok (.ireturn, 1) := by decide +kernel
theorem dJx4a65c_elementData_915e3_0 : decode cJx4a65c_elementData_915e3 0 = .ok (.aload_n 0, 1) := by decide +kernel
theorem dJx4a65c_elementData_915e3_1 : decode cJx4a65c_elementData_915e3 1 = .ok (.getfield 9, 3) := by decide +kernel
theorem dJx4a65c_elementData_915e3_4 : decode cJx4a65c_elementData_915e3 4 = .ok (.iload_n 1, 1) := by decide +kernel
theorem dJx4a65c_elementData_915e3_5 : decode cJx4a65c_elementData_915e3 5 = .ok (.aaload, 1) := by decide +kernel
theorem dJx4a65c_elementData_915e3_6 : decode cJx4a65c_elementData_915e3 6 = .ok (.areturn, 1) := by decide +kernel
set_option maxRecDepth 20000 in
theorem ggJx4a65c_get_915e3_J15_checkIndex_7cf53 : GoodIn wsJx4a65c_get_915e3 wsJ15_checkIndex_7cf53 := goodIn_r _ [5, 6, 7, 8, 9] (by decide +kernel) (by decide +kernel)
set_option maxRecDepth 20000 in
theorem gJx4a65c_get_915e3_J15_checkIndex_7cf53 : GoodIn wsJx4a65c_get_915e3 (va_wsS RJx4a65c 118 yJ15_checkIndex_7cf53 wsJ15_checkIndex_7cf53) := goodIn_app (goodIn_of _ (by decide +kernel)) ggJx4a65c_get_915e3_J15_checkIndex_7cf53
set_option maxRecDepth 20000 in
theorem ggJx4a65c_get_915e3_Jx4a65c_elementData_915e3 : GoodIn wsJx4a65c_get_915e3 wsJx4a65c_elementData_915e3 := goodIn_r _ [14, 15, 16, 17, 18] (by decide +kernel) (by decide +kernel)
set_option maxRecDepth 20000 in
theorem gJx4a65c_get_915e3_Jx4a65c_elementData_915e3 : GoodIn wsJx4a65c_get_915e3 (wsV RJx4a65c 123 RJx4a65c yJx4a65c_elementData_915e3 wsJx4a65c_elementData_915e3) := goodIn_app (goodIn_of _ (by decide +kernel)) ggJx4a65c_get_915e3_Jx4a65c_elementData_915e3
theorem dJx4a65c_get_915e3_0 : decode cJx4a65c_get_915e3 0 = .ok (.iload_n 1, 1) := by decide +kernel
theorem dJx4a65c_get_915e3_1 : decode cJx4a65c_get_915e3 1 = .ok (.aload_n 0, 1) := by decide +kernel
theorem dJx4a65c_get_915e3_2 : decode cJx4a65c_get_915e3 2 = .ok (.getfield 48, 3) := by decide +kernel
theorem dJx4a65c_get_915e3_5 : decode cJx4a65c_get_915e3 5 = .ok (.invokestatic 118, 3) := by decide +kernel
theorem dJx4a65c_get_915e3_8 : decode cJx4a65c_get_915e3 8 = .ok (.pop, 1) := by decide +kernel
theorem dJx4a65c_get_915e3_9 : decode cJx4a65c_get_915e3 9 = .ok (.aload_n 0, 1) := by decide +kernel
theorem dJx4a65c_get_915e3_10 : decode cJx4a65c_get_915e3 10 = .ok (.iload_n 1, 1) := by decide +kernel
theorem dJx4a65c_get_915e3_11 : decode cJx4a65c_get_915e3 11 = .ok (.invokevirtual 123, 3) := by decide +kernel
theorem dJx4a65c_get_915e3_14 : decode cJx4a65c_get_915e3 14 = .ok (.areturn, 1) := by decide +kernel
set_option maxRecDepth 20000 in
theorem ggJx4a65c_add_72be8_Jx4a65c_grow_d5877 : GoodIn wsJx4a65c_add_72be8 wsJx4a65c_grow_d5877 := goodIn_r _ [6, 1, 7, 8, 9, 5, 10, 11, 12, 13, 14, 15, 16, 17, 18, 19, 20, 21, 22, 23, 24, 25, 26, 27, 28, 29, 30, 31, 32, 33, 34, 35, 36, 37, 38, 39, 40, 41, 42, 43, 44, 45, 46, 47, 48, 49] (by decide +kernel) (by decide +kernel)
set_option maxRecDepth 20000 in
theorem gJx4a65c_add_72be8_Jx4a65c_grow_d5877 : GoodIn wsJx4a65c_add_72be8 (wsV RJx4a65c 129 RJx4a65c yJx4a65c_grow_d5877 wsJx4a65c_grow_d5877) := goodIn_app (goodIn_of _ (by decide +kernel)) ggJx4a65c_add_72be8_Jx4a65c_grow_d5877
theorem dJx4a65c_add_72be8_0 : decode cJx4a65c_add_72be8 0 = .ok (.iload_n 3, 1) := by decide +kernel
theorem dJx4a65c_add_72be8_1 : decode cJx4a65c_add_72be8 1 = .ok (.aload_n 2, 1) := by decide +kernel
theorem dJx4a65c_add_72be8_2 : decode cJx4a65c_add_72be8 2 = .ok (.arraylength, 1) := by decide +kernel
theorem dJx4a65c_add_72be8_3 : decode cJx4a65c_add_72be8 3 = .ok (.if_icmp .ne 8, 3) := by decide +kernel
theorem dJx4a65c_add_72be8_6 : decode cJx4a65c_add_72be8 6 = .ok (.aload_n 0, 1) := by decide +kernel
theorem dJx4a65c_add_72be8_7 : decode cJx4a65c_add_72be8 7 = .ok (.invokevirtual 129, 3) := by decide +kernel
theorem dJx4a65c_add_72be8_10 : decode cJx4a65c_add_72be8 10 = .ok (.astore_n 2, 1) := by decide +kernel
theorem dJx4a65c_add_72be8_11 : decode cJx4a65c_add_72be8 11 = .ok (.aload_n 2, 1) := by decide +kernel
theorem dJx4a65c_add_72be8_12 : decode cJx4a65c_add_72be8 12 = .ok (.iload_n 3, 1) := by decide +kernel
theorem dJx4a65c_add_72be8_13 : decode cJx4a65c_add_72be8 13 = .ok (.aload_n 1, 1) := by decide +kernel
theorem dJx4a65c_add_72be8_14 : decode cJx4a65c_add_72be8 14 = .ok (.aastore, 1) := by decide +kernel
theorem dJx4a65c_add_72be8_15 : decode cJx4a65c_add_72be8 15 = .ok (.aload_n 0, 1) := by decide +kernel
theorem dJx4a65c_add_72be8_16 : decode cJx4a65c_add_72be8 16 = .ok (.iload_n 3, 1) := by decide +kernel
theorem dJx4a65c_add_72be8_17 : decode cJx4a65c_add_72be8 17 = .ok (.iconst 1, 1) := by decide +kernel
theorem dJx4a65c_add_72be8_18 : decode cJx4a65c_add_72be8 18 = .ok (.iadd, 1) := by decide +kernel
theorem dJx4a65c_add_72be8_19 : decode cJx4a65c_add_72be8 19 = .ok (.putfield 48, 3) := by decide +kernel
theorem dJx4a65c_add_72be8_22 : decode cJx4a65c_add_72be8 22 = .ok (.return_, 1) := by decide +kernel
set_option maxRecDepth 20000 in
theorem ggJx4a65c_add_9ea2d_Jx4a65c_add_72be8 : GoodIn wsJx4a65c_add_9ea2d wsJx4a65c_add_72be8 := goodIn_r _ [9, 4, 10, 11, 12, 8, 13, 14, 15, 16, 17, 3, 18, 19, 20, 21, 22, 23, 24, 25, 26, 27, 28, 29, 30, 31, 32, 33, 34, 35, 36, 37, 38, 39, 40, 41, 42, 43, 44, 45, 46, 47, 48, 49, 50, 51, 52, 53, 54, 55] (by decide +kernel) (by decide +kernel)
set_option maxRecDepth 20000 in
theorem gJx4a65c_add_9ea2d_Jx4a65c_add_72be8 : GoodIn wsJx4a65c_add_9ea2d (wsV RJx4a65c 131 RJx4a65c yJx4a65c_add_72be8 wsJx4a65c_add_72be8) := goodIn_app (goodIn_of _ (by decide +kernel)) ggJx4a65c_add_9ea2d_Jx4a65c_add_72be8
theorem dJx4a65c_add_9ea2d_0 : decode cJx4a65c_add_9ea2d 0 = .ok (.aload_n 0, 1) := by decide +kernel
theorem dJx4a65c_add_9ea2d_1 : decode cJx4a65c_add_9ea2d 1 = .ok (.dup, 1) := by decide +kernel
theorem dJx4a65c_add_9ea2d_2 : decode cJx4a65c_add_9ea2d 2 = .ok (.getfield 63, 3) := by decide +kernel
theorem dJx4a65c_add_9ea2d_5 : decode cJx4a65c_add_9ea2d 5 = .ok (.iconst 1, 1) := by decide +kernel
theorem dJx4a65c_add_9ea2d_6 : decode cJx4a65c_add_9ea2d 6 = .ok (.iadd, 1) := by decide +kernel
theorem dJx4a65c_add_9ea2d_7 : decode cJx4a65c_add_9ea2d 7 = .ok (.putfield 63, 3) := by decide +kernel
theorem dJx4a65c_add_9ea2d_10 : decode cJx4a65c_add_9ea2d 10 = .ok (.aload_n 0, 1) := by decide +kernel
theorem dJx4a65c_add_9ea2d_11 : decode cJx4a65c_add_9ea2d 11 = .ok (.aload_n 1, 1) := by decide +kernel
theorem dJx4a65c_add_9ea2d_12 : decode cJx4a65c_add_9ea2d 12 = .ok (.aload_n 0, 1) := by decide +kernel
theorem dJx4a65c_add_9ea2d_13 : decode cJx4a65c_add_9ea2d 13 = .ok (.getfield 9, 3) := by decide +kernel
theorem dJx4a65c_add_9ea2d_16 : decode cJx4a65c_add_9ea2d 16 = .ok (.aload_n 0, 1) := by decide +kernel
theorem dJx4a65c_add_9ea2d_17 : decode cJx4a65c_add_9ea2d 17 = .ok (.getfield 48, 3) := by decide +kernel
theorem dJx4a65c_add_9ea2d_20 : decode cJx4a65c_add_9ea2d 20 = .ok (.invokevirtual 131, 3) := by decide +kernel
theorem dJx4a65c_add_9ea2d_23 : decode cJx4a65c_add_9ea2d 23 = .ok (.iconst 1, 1) := by decide +kernel
theorem dJx4a65c_add_9ea2d_24 : decode cJx4a65c_add_9ea2d 24 = .ok (.ireturn, 1) := by decide +kernel
set_option maxRecDepth 20000 in
theorem ggJ7_copyOf_1904c_J7_copyOf_6403c : GoodIn wsJ7_copyOf_1904c wsJ7_copyOf_6403c := goodIn_r _ [8, 9, 10, 11, 12, 13, 14, 15, 16, 17, 18] (by decide +kernel) (by decide +kernel)
set_option maxRecDepth 20000 in
theorem gJ7_copyOf_1904c_J7_copyOf_6403c : GoodIn wsJ7_copyOf_1904c (va_wsS RJ7 300 yJ7_copyOf_6403c wsJ7_copyOf_6403c) := goodIn_app (goodIn_of _ (by decide +kernel)) ggJ7_copyOf_1904c_J7_copyOf_6403c
theorem dJ7_copyOf_1904c_0 : decode cJ7_copyOf_1904c 0 = .ok (.aload_n 0, 1) := by decide +kernel
theorem dJ7_copyOf_1904c_1 : decode cJ7_copyOf_1904c 1 = .ok (.iload_n 1, 1) := by decide +kernel
theorem dJ7_copyOf_1904c_2 : decode cJ7_copyOf_1904c 2 = .ok (.aload_n 0, 1) := by decide +kernel
theorem dJ7_copyOf_1904c_3 : decode cJ7_copyOf_1904c 3 = .ok (.invokevirtual 86, 3) := by decide +kernel
theorem dJ7_copyOf_1904c_6 : decode cJ7_copyOf_1904c 6 = .ok (.invokestatic 300, 3) := by decide +kernel
theorem dJ7_copyOf_1904c_9 : decode cJ7_copyOf_1904c 9 = .ok (.areturn, 1) := by decide +kernel
theorem dJ7_copyOf_6403c_0 : decode cJ7_copyOf_6403c 0 = .ok (.aload_n 2, 1) := by decide +kernel
theorem dJ7_copyOf_6403c_1 : decode cJ7_copyOf_6403c 1 = .ok (.ldc 110, 2) := by decide +kernel
theorem dJ7_copyOf_6403c_3 : decode cJ7_copyOf_6403c 3 = .ok (.if_acmp .ne 10, 3) := by decide +kernel
theorem dJ7_copyOf_6403c_6 : decode cJ7_copyOf_6403c 6 = .ok (.iload_n 1, 1) := by decide +kernel
theorem dJ7_copyOf_6403c_7 : decode cJ7_copyOf_6403c 7 = .ok (.anewarray 2, 3) := by decide +kernel
theorem dJ7_copyOf_6403c_10 : decode cJ7_copyOf_6403c 10 = .ok (.goto 14, 3) := by decide +kernel
theorem dJ7_copyOf_6403c_13 : decode cJ7_copyOf_6403c 13 = .ok (.aload_n 2, 1) := by decide +kernel
theorem dJ7_copyOf_6403c_14 : decode cJ7_copyOf_6403c 14 = .ok (.invokevirtual 90, 3) := by decide +kernel
theorem dJ7_copyOf_6403c_17 : decode cJ7_copyOf_6403c 17 = .ok (.iload_n 1, 1) := by decide +kernel
theorem dJ7_copyOf_6403c_18 : decode cJ7_copyOf_6403c 18 = .ok (.invokestatic 95, 3) := by decide +kernel
theorem dJ7_copyOf_6403c_21 : decode cJ7_copyOf_6403c 21 = .ok (.checkcast 110, 3) := by decide +kernel
theorem dJ7_copyOf_6403c_24 : decode cJ7_copyOf_6403c 24 = .ok (.astore_n 3, 1) := by decide +kernel
theorem dJ7_copyOf_6403c_25 : decode cJ7_copyOf_6403c 25 = .ok (.aload_n 0, 1) := by decide +kernel
theorem dJ7_copyOf_6403c_26 : decode cJ7_copyOf_6403c 26 = .ok (.iconst 0, 1) := by decide +kernel
theorem dJ7_copyOf_6403c_27 : decode cJ7_copyOf_6403c 27 = .ok (.aload_n 3, 1) := by decide +kernel
theorem dJ7_copyOf_6403c_28 : decode cJ7_copyOf_6403c 28 = .ok (.iconst 0, 1) := by decide +kernel
theorem dJ7_copyOf_6403c_29 : decode cJ7_copyOf_6403c 29 = .ok (.aload_n 0, 1) := by decide +kernel
theorem dJ7_copyOf_6403c_30 : decode cJ7_copyOf_6403c 30 = .ok (.arraylength, 1) := by decide +kernel
theorem dJ7_copyOf_6403c_31 : decode cJ7_copyOf_6403c 31 = .ok (.iload_n 1, 1) := by decide +kernel
theorem dJ7_copyOf_6403c_32 : decode cJ7_copyOf_6403c 32 = .ok (.invokestatic 304, 3) := by decide +kernel
theorem dJ7_copyOf_6403c_35 : decode cJ7_copyOf_6403c 35 = .ok (.invokestatic 150, 3) := by decide +kernel
theorem dJ7_copyOf_6403c_38 : decode cJ7_copyOf_6403c 38 = .ok (.aload_n 3, 1) := by decide +kernel
theorem dJ7_copyOf_6403c_39 : decode cJ7_copyOf_6403c 39 = .ok (.areturn, 1) := by decide +kernel
set_option maxRecDepth 20000 in
theorem ggJ15_checkIndex_7cf53_J3_checkIndex_8e157 : GoodIn wsJ15_checkIndex_7cf53 wsJ3_checkIndex_8e157 := goodIn_r _ [4] (by decide +kernel) (by decide +kernel)
set_option maxRecDepth 20000 in
theorem gJ15_checkIndex_7cf53_J3_checkIndex_8e157 : GoodIn wsJ15_checkIndex_7cf53 (va_wsS RJ15 105 yJ3_checkIndex_8e157 wsJ3_checkIndex_8e157) := goodIn_app (goodIn_of _ (by decide +kernel)) ggJ15_checkIndex_7cf53_J3_checkIndex_8e157
theorem dJ15_checkIndex_7cf53_0 : decode cJ15_checkIndex_7cf53 0 = .ok (.iload_n 0, 1) := by decide +kernel
theorem dJ15_checkIndex_7cf53_1 : decode cJ15_checkIndex_7cf53 1 = .ok (.iload_n 1, 1) := by decide +kernel
theorem dJ15_checkIndex_7cf53_2 : decode cJ15_checkIndex_7cf53 2 = .ok (.aconst_null, 1) := by decide +kernel
theorem dJ15_checkIndex_7cf53_3 : decode cJ15_checkIndex_7cf53 3 = .ok (.invokestatic 105, 3) := by decide +kernel
theorem dJ15_checkIndex_7cf53_6 : decode cJ15_checkIndex_7cf53 6 = .ok (.ireturn, 1) := by decide +kernel
set_option maxRecDepth 20000 in
theorem ggJ8_newLength_cabcc_J8_hugeLength_7cf53 : GoodIn wsJ8_newLength_cabcc wsJ8_hugeLength_7cf53 := goodIn_r _ [9, 5] (by decide +kernel) (by decide +kernel)
set_option maxRecDepth 20000 in
theorem gJ8_newLength_cabcc_J8_hugeLength_7cf53 : GoodIn wsJ8_newLength_cabcc (va_wsS RJ8 201 yJ8_hugeLength_7cf53 wsJ8_hugeLength_7cf53) := goodIn_app (goodIn_of _ (by decide +kernel)) ggJ8_newLength_cabcc_J8_hugeLength_7cf53
theorem dJ8_newLength_cabcc_0 : decode cJ8_newLength_cabcc 0 = .ok (.iload_n 0, 1) := by decide +kernel
theorem dJ8_newLength_cabcc_1 : decode cJ8_newLength_cabcc 1 = .ok (.iload_n 1, 1) := by decide +kernel
theorem dJ8_newLength_cabcc_2 : decode cJ8_newLength_cabcc 2 = .ok (.iload_n 2, 1) := by decide +kernel
theorem dJ8_newLength_cabcc_3 : decode cJ8_newLength_cabcc 3 = .ok (.invokestatic 194, 3) := by decide +kernel
theorem dJ8_newLength_cabcc_6 : decode cJ8_newLength_cabcc 6 = .ok (.iadd, 1) := by decide +kernel
theorem dJ8_newLength_cabcc_7 : decode cJ8_newLength_cabcc 7 = .ok (.istore_n 3, 1) := by decide +kernel
theorem dJ8_newLength_cabcc_8 : decode cJ8_newLength_cabcc 8 = .ok (.iconst 0, 1) := by decide +kernel
theorem dJ8_newLength_cabcc_9 : decode cJ8_newLength_cabcc 9 = .ok (.iload_n 3, 1) := by decide +kernel
theorem dJ8_newLength_cabcc_10 : decode cJ8_newLength_cabcc 10 = .ok (.if_icmp .ge 11, 3) := by decide +kernel
theorem dJ8_newLength_cabcc_13 : decode cJ8_newLength_cabcc 13 = .ok (.iload_n 3, 1) := by decide +kernel
theorem dJ8_newLength_cabcc_14 : decode cJ8_newLength_cabcc 14 = .ok (.ldc 200, 2) := by decide +kernel
theorem dJ8_newLength_cabcc_16 : decode cJ8_newLength_cabcc 16 = .ok (.if_icmp .gt 5, 3) := by decide +kernel
theorem dJ8_newLength_cabcc_19 : decode cJ8_newLength_cabcc 19 = .ok (.iload_n 3, 1) := by decide +kernel
theorem dJ8_newLength_cabcc_20 : decode cJ8_newLength_cabcc 20 = .ok (.ireturn, 1) := by decide +kernel
theorem dJ8_newLength_cabcc_21 : decode cJ8_newLength_cabcc 21 = .ok (.iload_n 0, 1) := by decide +kernel
theorem dJ8_newLength_cabcc_22 : decode cJ8_newLength_cabcc 22 = .ok (.iload_n 1, 1) := by decide +kernel
theorem dJ8_newLength_cabcc_23 : decode cJ8_newLength_cabcc 23 = .ok (.invokestatic 201, 3) := by decide +kernel
theorem dJ8_newLength_cabcc_26 : decode cJ8_newLength_cabcc 26 = .ok (.ireturn, 1) := by decide +kernel
theorem dJ8_hugeLength_7cf53_0 : decode cJ8_hugeLength_7cf53 0 = .ok (.iload_n 0, 1) := by decide +kernel
theorem dJ8_hugeLength_7cf53_1 : decode cJ8_hugeLength_7cf53 1 = .ok (.iload_n 1, 1) := by decide +kernel
theorem dJ8_hugeLength_7cf53_2 : decode cJ8_hugeLength_7cf53 2 = .ok (.iadd, 1) := by decide +kernel
theorem dJ8_hugeLength_7cf53_3 : decode cJ8_hugeLength_7cf53 3 = .ok (.istore_n 2, 1) := by decide +kernel
theorem dJ8_hugeLength_7cf53_4 : decode cJ8_hugeLength_7cf53 4 = .ok (.iload_n 2, 1) := by decide +kernel
theorem dJ8_hugeLength_7cf53_5 : decode cJ8_hugeLength_7cf53 5 = .ok (.ifCond .ge 44, 3) := by decide +kernel
theorem dJ8_hugeLength_7cf53_8 : decode cJ8_hugeLength_7cf53 8 = .ok (.new 204, 3) := by decide +kernel
theorem dJ8_hugeLength_7cf53_11 : decode cJ8_hugeLength_7cf53 11 = .ok (.dup, 1) := by decide +kernel
theorem dJ8_hugeLength_7cf53_12 : decode cJ8_hugeLength_7cf53 12 = .ok (.new 89, 3) := by decide +kernel
theorem dJ8_hugeLength_7cf53_15 : decode cJ8_hugeLength_7cf53 15 = .ok (.dup, 1) := by decide +kernel
theorem dJ8_hugeLength_7cf53_16 : decode cJ8_hugeLength_7cf53 16 = .ok (.invokespecial 91, 3) := by decide +kernel
theorem dJ8_hugeLength_7cf53_19 : decode cJ8_hugeLength_7cf53 19 = .ok (.ldc 206, 2) := by decide +kernel
theorem dJ8_hugeLength_7cf53_21 : decode cJ8_hugeLength_7cf53 21 = .ok (.invokevirtual 94, 3) := by decide +kernel
theorem dJ8_hugeLength_7cf53_24 : decode cJ8_hugeLength_7cf53 24 = .ok (.iload_n 0, 1) := by decide +kernel
theorem dJ8_hugeLength_7cf53_25 : decode cJ8_hugeLength_7cf53 25 = .ok (.invokevirtual 98, 3) := by decide +kernel
theorem dJ8_hugeLength_7cf53_28 : decode cJ8_hugeLength_7cf53 28 = .ok (.ldc 208, 2) := by decide +kernel
theorem dJ8_hugeLength_7cf53_30 : decode cJ8_hugeLength_7cf53 30 = .ok (.invokevirtual 94, 3) := by decide +kernel
theorem dJ8_hugeLength_7cf53_33 : decode cJ8_hugeLength_7cf53 33 = .ok (.iload_n 1, 1) := by decide +kernel
theorem dJ8_hugeLength_7cf53_34 : decode cJ8_hugeLength_7cf53 34 = .ok (.invokevirtual 98, 3) := by decide +kernel
theorem dJ8_hugeLength_7cf53_37 : decode cJ8_hugeLength_7cf53 37 = .ok (.ldc 210, 2) := by decide +kernel
theorem dJ8_hugeLength_7cf53_39 : decode cJ8_hugeLength_7cf53 39 = .ok (.invokevirtual 94, 3) := by decide +kernel
theorem dJ8_hugeLength_7cf53_42 : decode cJ8_hugeLength_7cf53 42 = .ok (.invokevirtual 101, 3) := by decide +kernel
theorem dJ8_hugeLength_7cf53_45 : decode cJ8_hugeLength_7cf53 45 = .ok (.invokespecial 212, 3) := by decide +kernel
theorem dJ8_hugeLength_7cf53_48 : decode cJ8_hugeLength_7cf53 48 = .ok (.athrow, 1) := by decide +kernel
theorem dJ8_hugeLength_7cf53_49 : decode cJ8_hugeLength_7cf53 49 = .ok (.iload_n 2, 1) := by decide +kernel
theorem dJ8_hugeLength_7cf53_50 : decode cJ8_hugeLength_7cf53 50 = .ok (.ldc 200, 2) := by decide +kernel
theorem dJ8_hugeLength_7cf53_52 : decode cJ8_hugeLength_7cf53 52 = .ok (.if_icmp .gt 6, 3) := by decide +kernel
theorem dJ8_hugeLength_7cf53_55 : decode cJ8_hugeLength_7cf53 55 = .ok (.ldc 200, 2) := by decide +kernel
theorem dJ8_hugeLength_7cf53_57 : decode cJ8_hugeLength_7cf53 57 = .ok (.ireturn, 1) := by decide +kernel
theorem dJ8_hugeLength_7cf53_58 : decode cJ8_hugeLength_7cf53 58 = .ok (.iload_n 2, 1) := by decide +kernel
theorem dJ8_hugeLength_7cf53_59 : decode cJ8_hugeLength_7cf53 59 = .ok (.ireturn, 1) := by decide +kernel
theorem dJ3_checkIndex_8e157_0 : decode cJ3_checkIndex_8e157 0 = .ok (.iload_n 0, 1) := by decide +kernel
theorem dJ3_checkIndex_8e157_1 : decode cJ3_checkIndex_8e157 1 = .ok (.ifCond .lt 8, 3) := by decide +kernel
theorem dJ3_checkIndex_8e157_4 : decode cJ3_checkIndex_8e157 4 = .ok (.iload_n 0, 1) := by decide +kernel
theorem dJ3_checkIndex_8e157_5 : decode cJ3_checkIndex_8e157 5 = .ok (.iload_n 1, 1) := by decide +kernel
theorem dJ3_checkIndex_8e157_6 : decode cJ3_checkIndex_8e157 6 = .ok (.if_icmp .lt 10, 3) := by decide +kernel
theorem dJ3_checkIndex_8e157_9 : decode cJ3_checkIndex_8e157 9 = .ok (.aload_n 2, 1) := by decide +kernel
theorem dJ3_checkIndex_8e157_10 : decode cJ3_checkIndex_8e157 10 = .ok (.iload_n 0, 1) := by decide +kernel
theorem dJ3_checkIndex_8e157_11 : decode cJ3_checkIndex_8e157 11 = .ok (.iload_n 1, 1) := by decide +kernel
theorem dJ3_checkIndex_8e157_12 : decode cJ3_checkIndex_8e157 12 = .ok (.invokestatic 95, 3) := by decide +kernel
theorem dJ3_checkIndex_8e157_15 : decode cJ3_checkIndex_8e157 15 = .ok (.athrow, 1) := by decide +kernel
theorem dJ3_checkIndex_8e157_16 : decode cJ3_checkIndex_8e157 16 = .ok (.iload_n 0, 1) := by decide +kernel
theorem dJ3_checkIndex_8e157_17 : decode cJ3_checkIndex_8e157 17 = .ok (.ireturn, 1) := by decide +kernel
theorem dJ3_checkFromToIndex_8c36e_0 : decode cJ3_checkFromToIndex_8c36e 0 = .ok (.iload_n 0, 1) := by decide +kernel
theorem dJ3_checkFromToIndex_8c36e_1 : decode cJ3_checkFromToIndex_8c36e 1 = .ok (.ifCond .lt 13, 3) := by decide +kernel
theorem dJ3_checkFromToIndex_8c36e_4 : decode cJ3_checkFromToIndex_8c36e 4 = .ok (.iload_n 0, 1) := by decide +kernel
theorem dJ3_checkFromToIndex_8c36e_5 : decode cJ3_checkFromToIndex_8c36e 5 = .ok (.iload_n 1, 1) := by decide +kernel
theorem dJ3_checkFromToIndex_8c36e_6 : decode cJ3_checkFromToIndex_8c36e 6 = .ok (.if_icmp .gt 8, 3) := by decide +kernel
theorem dJ3_checkFromToIndex_8c36e_9 : decode cJ3_checkFromToIndex_8c36e 9 = .ok (.iload_n 1, 1) := by decide +kernel
theorem dJ3_checkFromToIndex_8c36e_10 : decode cJ3_checkFromToIndex_8c36e 10 = .ok (.iload_n 2, 1) := by decide +kernel
theorem dJ3_checkFromToIndex_8c36e_11 : decode cJ3_checkFromToIndex_8c36e 11 = .ok (.if_icmp .le 11, 3) := by decide +kernel
theorem dJ3_checkFromToIndex_8c36e_14 : decode cJ3_checkFromToIndex_8c36e 14 = .ok (.aload_n 3, 1) := by decide +kernel
theorem dJ3_checkFromToIndex_8c36e_15 : decode cJ3_checkFromToIndex_8c36e 15 = .ok (.iload_n 0, 1) := by decide +kernel
theorem dJ3_checkFromToIndex_8c36e_16 : decode cJ3_checkFromToIndex_8c36e 16 = .ok (.iload_n 1, 1) := by decide +kernel
theorem dJ3_checkFromToIndex_8c36e_17 : decode cJ3_checkFromToIndex_8c36e 17 = .ok (.iload_n 2, 1) := by decide +kernel
theorem dJ3_checkFromToIndex_8c36e_18 : decode cJ3_checkFromToIndex_8c36e 18 = .ok (.invokestatic 99, 3) := by decide +kernel
theorem dJ3_checkFromToIndex_8c36e_21 : decode cJ3_checkFromToIndex_8c36e 21 = .ok (.athrow, 1) := by decide +kernel
theorem dJ3_checkFromToIndex_8c36e_22 : decode cJ3_checkFromToIndex_8c36e 22 = .ok (.iload_n 0, 1) := by decide +kernel
theorem dJ3_checkFromToIndex_8c36e_23 : decode cJ3_checkFromToIndex_8c36e 23 = .ok (.ireturn, 1) := by decide +kernel
