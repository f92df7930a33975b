theorem dX8_scanNumber_18 : decode cX8_scanNumber 18 = .ok (.iload 4, 2) := by decide +kernel
theorem dX8_scanNumber_20 : decode cX8_scanNumber 20 = .ok (.caload, 1) := by decide +kernel
theorem dX8_scanNumber_21 : decode cX8_scanNumber 21 = .ok (.invokestatic 59, 3) := by decide +kernel
theorem dX8_scanNumber_24 : decode cX8_scanNumber 24 = .ok (.ifCond .eq 27, 3) := by decide +kernel
theorem dX8_scanNumber_27 : decode cX8_scanNumber 27 = .ok (.lload_n 2, 1) := by decide +kernel
theorem dX8_scanNumber_28 : decode cX8_scanNumber 28 = .ok (.ldc2_w 86, 3) := by decide +kernel
theorem dX8_scanNumber_31 : decode cX8_scanNumber 31 = .ok (.lmul, 1) := by decide +kernel
theorem dX8_scanNumber_32 : decode cX8_scanNumber 32 = .ok (.aload_n 0, 1) := by decide +kernel
theorem dX8_scanNumber_33 : decode cX8_scanNumber 33 = .ok (.getfield 9, 3) := by decide +kernel
theorem dX8_scanNumber_36 : decode cX8_scanNumber 36 = .ok (.iload 4, 2) := by decide +kernel
theorem dX8_scanNumber_38 : decode cX8_scanNumber 38 = .ok (.caload, 1) := by decide +kernel
theorem dX8_scanNumber_39 : decode cX8_scanNumber 39 = .ok (.bipush 48, 2) := by decide +kernel
theorem dX8_scanNumber_41 : decode cX8_scanNumber 41 = .ok (.isub, 1) := by decide +kernel
theorem dX8_scanNumber_42 : decode cX8_scanNumber 42 = .ok (.i2l, 1) := by decide +kernel
theorem dX8_scanNumber_43 : decode cX8_scanNumber 43 = .ok (.ladd, 1) := by decide +kernel
theorem dX8_scanNumber_44 : decode cX8_scanNumber 44 = .ok (.lstore_n 2, 1) := by decide +kernel
theorem dX8_scanNumber_45 : decode cX8_scanNumber 45 = .ok (.iinc 4 1, 3) := by decide +kernel
theorem dX8_scanNumber_48 : decode cX8_scanNumber 48 = .ok (.goto (-43), 3) := by decide +kernel
theorem dX8_scanNumber_51 : decode cX8_scanNumber 51 = .ok (.aload_n 0, 1) := by decide +kernel
theorem dX8_scanNumber_52 : decode cX8_scanNumber 52 = .ok (.iload 4, 2) := by decide +kernel
theorem dX8_scanNumber_54 : decode cX8_scanNumber 54 = .ok (.iload_n 1, 1) := by decide +kernel
theorem dX8_scanNumber_55 : decode cX8_scanNumber 55 = .ok (.isub, 1) := by decide +kernel
theorem dX8_scanNumber_56 : decode cX8_scanNumber 56 = .ok (.iconst 4, 1) := by decide +kernel
theorem dX8_scanNumber_57 : decode cX8_scanNumber 57 = .ok (.if_icmp .gt 7, 3) := by decide +kernel
theorem dX8_scanNumber_60 : decode cX8_scanNumber 60 = .ok (.iconst 4, 1) := by decide +kernel
theorem dX8_scanNumber_61 : decode cX8_scanNumber 61 = .ok (.goto 4, 3) := by decide +kernel
theorem dX8_scanNumber_64 : decode cX8_scanNumber 64 = .ok (.iconst 1, 1) := by decide +kernel
theorem dX8_scanNumber_65 : decode cX8_scanNumber 65 = .ok (.iload_n 1, 1) := by decide +kernel
theorem dX8_scanNumber_66 : decode cX8_scanNumber 66 = .ok (.lload_n 2, 1) := by decide +kernel
theorem dX8_scanNumber_67 : decode cX8_scanNumber 67 = .ok (.invokevirtual 49, 3) := by decide +kernel
theorem dX8_scanNumber_70 : decode cX8_scanNumber 70 = .ok (.iload 4, 2) := by decide +kernel
theorem dX8_scanNumber_72 : decode cX8_scanNumber 72 = .ok (.ireturn, 1) := by decide +kernel
theorem dX8_isBlank_0 : decode cX8_isBlank 0 = .ok (.iload_n 0, 1) := by decide +kernel
theorem dX8_isBlank_1 : decode cX8_isBlank 1 = .ok (.bipush 10, 2) := by decide +kernel
theorem dX8_isBlank_3 : decode cX8_isBlank 3 = .ok (.if_icmp .eq 9, 3) := by decide +kernel
theorem dX8_isBlank_6 : decode cX8_isBlank 6 = .ok (.iload_n 0, 1) := by decide +kernel
theorem dX8_isBlank_7 : decode cX8_isBlank 7 = .ok (.bipush 32, 2) := by decide +kernel
theorem dX8_isBlank_9 : decode cX8_isBlank 9 = .ok (.if_icmp .ne 7, 3) := by decide +kernel
theorem dX8_isBlank_12 : decode cX8_isBlank 12 = .ok (.iconst 1, 1) := by decide +kernel
theorem dX8_isBlank_13 : decode cX8_isBlank 13 = .ok (.goto 4, 3) := by decide +kernel
theorem dX8_isBlank_16 : decode cX8_isBlank 16 = .ok (.iconst 0, 1) := by decide +kernel
theorem dX8_isBlank_17 : decode cX8_isBlank 17 = .ok (.ireturn, 1) := by decide +kernel
theorem dX8_isLetter_0 : decode cX8_isLetter 0 = .ok (.iload_n 0, 1) := by decide +kernel
theorem dX8_isLetter_1 : decode cX8_isLetter 1 = .ok (.bipush 97, 2) := by decide +kernel
theorem dX8_isLetter_3 : decode cX8_isLetter 3 = .ok (.if_icmp .lt 13, 3) := by decide +kernel
theorem dX8_isLetter_6 : decode cX8_isLetter 6 = .ok (.iload_n 0, 1) := by decide +kernel
theorem dX8_isLetter_7 : decode cX8_isLetter 7 = .ok (.bipush 122, 2) := by decide +kernel
theorem dX8_isLetter_9 : decode cX8_isLetter 9 = .ok (.if_icmp .gt 7, 3) := by decide +kernel
theorem dX8_isLetter_12 : decode cX8_isLetter 12 = .ok (.iconst 1, 1) := by decide +kernel
theorem dX8_isLetter_13 : decode cX8_isLetter 13 = .ok (.goto 4, 3) := by decide +kernel
theorem dX8_isLetter_16 : decode cX8_isLetter 16 = .ok (.iconst 0, 1) := by decide +kernel
theorem dX8_isLetter_17 : decode cX8_isLetter 17 = .ok (.ireturn, 1) := by decide +kernel
theorem dX8_isDigit_0 : decode cX8_isDigit 0 = .ok (.iload_n 0, 1) := by decide +kernel
theorem dX8_isDigit_1 : decode cX8_isDigit 1 = .ok (.bipush 48, 2) := by decide +kernel
theorem dX8_isDigit_3 : decode cX8_isDigit 3 = .ok (.if_icmp .lt 13, 3) := by decide +kernel
theorem dX8_isDigit_6 : decode cX8_isDigit 6 = .ok (.iload_n 0, 1) := by decide +kernel
theorem dX8_isDigit_7 : decode cX8_isDigit 7 = .ok (.bipush 57, 2) := by decide +kernel
theorem dX8_isDigit_9 : decode cX8_isDigit 9 = .ok (.if_icmp .gt 7, 3) := by decide +kernel
theorem dX8_isDigit_12 : decode cX8_isDigit 12 = .ok (.iconst 1, 1) := by decide +kernel
theorem dX8_isDigit_13 : decode cX8_isDigit 13 = .ok (.goto 4, 3) := by decide +kernel
theorem dX8_isDigit_16 : decode cX8_isDigit 16 = .ok (.iconst 0, 1) := by decide +kernel
theorem dX8_isDigit_17 : decode cX8_isDigit 17 = .ok (.ireturn, 1) := by decide +kernel
theorem dX8_goesOn_0 : decode cX8_goesOn 0 = .ok (.aload_n 0, 1) := by decide +kernel
theorem dX8_goesOn_1 : decode cX8_goesOn 1 = .ok (.getfield 36, 3) := by decide +kernel
theorem dX8_goesOn_4 : decode cX8_goesOn 4 = .ok (.ifCond .ne 19, 3) := by decide +kernel
theorem dX8_goesOn_7 : decode cX8_goesOn 7 = .ok (.aload_n 0, 1) := by decide +kernel
theorem dX8_goesOn_8 : decode cX8_goesOn 8 = .ok (.getfield 15, 3) := by decide +kernel
theorem dX8_goesOn_11 : decode cX8_goesOn 11 = .ok (.aload_n 0, 1) := by decide +kernel
theorem dX8_goesOn_12 : decode cX8_goesOn 12 = .ok (.getfield 30, 3) := by decide +kernel
theorem dX8_goesOn_15 : decode cX8_goesOn 15 = .ok (.iaload, 1) := by decide +kernel
theorem dX8_goesOn_16 : decode cX8_goesOn 16 = .ok (.ifCond .eq 7, 3) := by decide +kernel
theorem dX8_goesOn_19 : decode cX8_goesOn 19 = .ok (.iconst 1, 1) := by decide +kernel
theorem dX8_goesOn_20 : decode cX8_goesOn 20 = .ok (.goto 4, 3) := by decide +kernel
theorem dX8_goesOn_23 : decode cX8_goesOn 23 = .ok (.iconst 0, 1) := by decide +kernel
theorem dX8_goesOn_24 : decode cX8_goesOn 24 = .ok (.ireturn, 1) := by decide +kernel
theorem dX8_fail_0 : decode cX8_fail 0 = .ok (.aload_n 0, 1) := by decide +kernel
theorem dX8_fail_1 : decode cX8_fail 1 = .ok (.getfield 36, 3) := by decide +kernel
theorem dX8_fail_4 : decode cX8_fail 4 = .ok (.ifCond .ne 21, 3) := by decide +kernel
theorem dX8_fail_7 : decode cX8_fail 7 = .ok (.aload_n 0, 1) := by decide +kernel
theorem dX8_fail_8 : decode cX8_fail 8 = .ok (.iload_n 1, 1) := by decide +kernel
theorem dX8_fail_9 : decode cX8_fail 9 = .ok (.bipush 16, 2) := by decide +kernel
theorem dX8_fail_11 : decode cX8_fail 11 = .ok (.aload_n 0, 1) := by decide +kernel
theorem dX8_fail_12 : decode cX8_fail 12 = .ok (.getfield 19, 3) := by decide +kernel
theorem dX8_fail_15 : decode cX8_fail 15 = .ok (.aload_n 0, 1) := by decide +kernel
theorem dX8_fail_16 : decode cX8_fail 16 = .ok (.getfield 30, 3) := by decide +kernel
theorem dX8_fail_19 : decode cX8_fail 19 = .ok (.iaload, 1) := by decide +kernel
theorem dX8_fail_20 : decode cX8_fail 20 = .ok (.imul, 1) := by decide +kernel
theorem dX8_fail_21 : decode cX8_fail 21 = .ok (.iadd, 1) := by decide +kernel
theorem dX8_fail_22 : decode cX8_fail 22 = .ok (.putfield 36, 3) := by decide +kernel
theorem dX8_fail_25 : decode cX8_fail 25 = .ok (.return_, 1) := by decide +kernel
theorem dX8_isAt_0 : decode cX8_isAt 0 = .ok (.aload_n 0, 1) := by decide +kernel
theorem dX8_isAt_1 : decode cX8_isAt 1 = .ok (.getfield 36, 3) := by decide +kernel
theorem dX8_isAt_4 : decode cX8_isAt 4 = .ok (.ifCond .ne 35, 3) := by decide +kernel
theorem dX8_isAt_7 : decode cX8_isAt 7 = .ok (.aload_n 0, 1) := by decide +kernel
theorem dX8_isAt_8 : decode cX8_isAt 8 = .ok (.getfield 15, 3) := by decide +kernel
theorem dX8_isAt_11 : decode cX8_isAt 11 = .ok (.aload_n 0, 1) := by decide +kernel
theorem dX8_isAt_12 : decode cX8_isAt 12 = .ok (.getfield 30, 3) := by decide +kernel
theorem dX8_isAt_15 : decode cX8_isAt 15 = .ok (.iaload, 1) := by decide +kernel
theorem dX8_isAt_16 : decode cX8_isAt 16 = .ok (.iconst 5, 1) := by decide +kernel
theorem dX8_isAt_17 : decode cX8_isAt 17 = .ok (.if_icmp .ne 22, 3) := by decide +kernel
theorem dX8_isAt_20 : decode cX8_isAt 20 = .ok (.aload_n 0, 1) := by decide +kernel
theorem dX8_isAt_21 : decode cX8_isAt 21 = .ok (.getfield 22, 3) := by decide +kernel
theorem dX8_isAt_24 : decode cX8_isAt 24 = .ok (.aload_n 0, 1) := by decide +kernel
theorem dX8_isAt_25 : decode cX8_isAt 25 = .ok (.getfield 30, 3) := by decide +kernel
theorem dX8_isAt_28 : decode cX8_isAt 28 = .ok (.laload, 1) := by decide +kernel
theorem dX8_isAt_29 : decode cX8_isAt 29 = .ok (.iload_n 1, 1) := by decide +kernel
theorem dX8_isAt_30 : decode cX8_isAt 30 = .ok (.i2l, 1) := by decide +kernel
theorem dX8_isAt_31 : decode cX8_isAt 31 = .ok (.lcmp, 1) := by decide +kernel
theorem dX8_isAt_32 : decode cX8_isAt 32 = .ok (.ifCond .ne 7, 3) := by decide +kernel
theorem dX8_isAt_35 : decode cX8_isAt 35 = .ok (.iconst 1, 1) := by decide +kernel
theorem dX8_isAt_36 : decode cX8_isAt 36 = .ok (.goto 4, 3) := by decide +kernel
theorem dX8_isAt_39 : decode cX8_isAt 39 = .ok (.iconst 0, 1) := by decide +kernel
theorem dX8_isAt_40 : decode cX8_isAt 40 = .ok (.ireturn, 1) := by decide +kernel
theorem dX8_isAt__0 : decode cX8_isAt_ 0 = .ok (.aload_n 0, 1) := by decide +kernel
theorem dX8_isAt__1 : decode cX8_isAt_ 1 = .ok (.getfield 15, 3) := by decide +kernel
theorem dX8_isAt__4 : decode cX8_isAt_ 4 = .ok (.aload_n 0, 1) := by decide +kernel
theorem dX8_isAt__5 : decode cX8_isAt_ 5 = .ok (.getfield 30, 3) := by decide +kernel
theorem dX8_isAt__8 : decode cX8_isAt_ 8 = .ok (.iaload, 1) := by decide +kernel
theorem dX8_isAt__9 : decode cX8_isAt_ 9 = .ok (.iconst 2, 1) := by decide +kernel
theorem dX8_isAt__10 : decode cX8_isAt_ 10 = .ok (.if_icmp .eq 16, 3) := by decide +kernel
theorem dX8_isAt__13 : decode cX8_isAt_ 13 = .ok (.aload_n 0, 1) := by decide +kernel
theorem dX8_isAt__14 : decode cX8_isAt_ 14 = .ok (.getfield 15, 3) := by decide +kernel
theorem dX8_isAt__17 : decode cX8_isAt_ 17 = .ok (.aload_n 0, 1) := by decide +kernel
theorem dX8_isAt__18 : decode cX8_isAt_ 18 = .ok (.getfield 30, 3) := by decide +kernel
theorem dX8_isAt__21 : decode cX8_isAt_ 21 = .ok (.iaload, 1) := by decide +kernel
theorem dX8_isAt__22 : decode cX8_isAt_ 22 = .ok (.iconst 3, 1) := by decide +kernel
theorem dX8_isAt__23 : decode cX8_isAt_ 23 = .ok (.if_icmp .ne 7, 3) := by decide +kernel
theorem dX8_isAt__26 : decode cX8_isAt_ 26 = .ok (.iconst 1, 1) := by decide +kernel
theorem dX8_isAt__27 : decode cX8_isAt_ 27 = .ok (.goto 4, 3) := by decide +kernel
theorem dX8_isAt__30 : decode cX8_isAt_ 30 = .ok (.iconst 0, 1) := by decide +kernel
theorem dX8_isAt__31 : decode cX8_isAt_ 31 = .ok (.istore_n 2, 1) := by decide +kernel
theorem dX8_isAt__32 : decode cX8_isAt_ 32 = .ok (.aload_n 0, 1) := by decide +kernel
theorem dX8_isAt__33 : decode cX8_isAt_ 33 = .ok (.getfield 36, 3) := by decide +kernel
theorem dX8_isAt__36 : decode cX8_isAt_ 36 = .ok (.ifCond .ne 28, 3) := by decide +kernel
theorem dX8_isAt__39 : decode cX8_isAt_ 39 = .ok (.iload_n 2, 1) := by decide +kernel
theorem dX8_isAt__40 : decode cX8_isAt_ 40 = .ok (.ifCond .eq 24, 3) := by decide +kernel
theorem dX8_isAt__43 : decode cX8_isAt_ 43 = .ok (.aload_n 0, 1) := by decide +kernel
theorem dX8_isAt__44 : decode cX8_isAt_ 44 = .ok (.getfield 22, 3) := by decide +kernel
theorem dX8_isAt__47 : decode cX8_isAt_ 47 = .ok (.aload_n 0, 1) := by decide +kernel
theorem dX8_isAt__48 : decode cX8_isAt_ 48 = .ok (.getfield 30, 3) := by decide +kernel
theorem dX8_isAt__51 : decode cX8_isAt_ 51 = .ok (.laload, 1) := by decide +kernel
theorem dX8_isAt__52 : decode cX8_isAt_ 52 = .ok (.aload_n 1, 1) := by decide +kernel
theorem dX8_isAt__53 : decode cX8_isAt_ 53 = .ok (.getfield 88, 3) := by decide +kernel
theorem dX8_isAt__56 : decode cX8_isAt_ 56 = .ok (.lcmp, 1) := by decide +kernel
theorem dX8_isAt__57 : decode cX8_isAt_ 57 = .ok (.ifCond .ne 7, 3) := by decide +kernel
theorem dX8_isAt__60 : decode cX8_isAt_ 60 = .ok (.iconst 1, 1) := by decide +kernel
theorem dX8_isAt__61 : decode cX8_isAt_ 61 = .ok (.goto 4, 3) := by decide +kernel
theorem dX8_isAt__64 : decode cX8_isAt_ 64 = .ok (.iconst 0, 1) := by decide +kernel
theorem dX8_isAt__65 : decode cX8_isAt_ 65 = .ok (.ireturn, 1) := by decide +kernel
theorem dX8_isName_0 : decode cX8_isName 0 = .ok (.aload_n 0, 1) := by decide +kernel
theorem dX8_isName_1 : decode cX8_isName 1 = .ok (.getfield 36, 3) := by decide +kernel
theorem dX8_isName_4 : decode cX8_isName 4 = .ok (.ifCond .ne 20, 3) := by decide +kernel
theorem dX8_isName_7 : decode cX8_isName 7 = .ok (.aload_n 0, 1) := by decide +kernel
theorem dX8_isName_8 : decode cX8_isName 8 = .ok (.getfield 15, 3) := by decide +kernel
theorem dX8_isName_11 : decode cX8_isName 11 = .ok (.aload_n 0, 1) := by decide +kernel
theorem dX8_isName_12 : decode cX8_isName 12 = .ok (.getfield 30, 3) := by decide +kernel
theorem dX8_isName_15 : decode cX8_isName 15 = .ok (.iaload, 1) := by decide +kernel
theorem dX8_isName_16 : decode cX8_isName 16 = .ok (.iconst 2, 1) := by decide +kernel
theorem dX8_isName_17 : decode cX8_isName 17 = .ok (.if_icmp .ne 7, 3) := by decide +kernel
theorem dX8_isName_20 : decode cX8_isName 20 = .ok (.iconst 1, 1) := by decide +kernel
theorem dX8_isName_21 : decode cX8_isName 21 = .ok (.goto 4, 3) := by decide +kernel
theorem dX8_isName_24 : decode cX8_isName 24 = .ok (.iconst 0, 1) := by decide +kernel
theorem dX8_isName_25 : decode cX8_isName 25 = .ok (.ireturn, 1) := by decide +kernel
theorem dX8_isNumber_0 : decode cX8_isNumber 0 = .ok (.aload_n 0, 1) := by decide +kernel
theorem dX8_isNumber_1 : decode cX8_isNumber 1 = .ok (.getfield 36, 3) := by decide +kernel
theorem dX8_isNumber_4 : decode cX8_isNumber 4 = .ok (.ifCond .ne 20, 3) := by decide +kernel
theorem dX8_isNumber_7 : decode cX8_isNumber 7 = .ok (.aload_n 0, 1) := by decide +kernel
theorem dX8_isNumber_8 : decode cX8_isNumber 8 = .ok (.getfield 15, 3) := by decide +kernel
theorem dX8_isNumber_11 : decode cX8_isNumber 11 = .ok (.aload_n 0, 1) := by decide +kernel
theorem dX8_isNumber_12 : decode cX8_isNumber 12 = .ok (.getfield 30, 3) := by decide +kernel
theorem dX8_isNumber_15 : decode cX8_isNumber 15 = .ok (.iaload, 1) := by decide +kernel
theorem dX8_isNumber_16 : decode cX8_isNumber 16 = .ok (.iconst 4, 1) := by decide +kernel
theorem dX8_isNumber_17 : decode cX8_isNumber 17 = .ok (.if_icmp .ne 7, 3) := by decide +kernel
theorem dX8_isNumber_20 : decode cX8_isNumber 20 = .ok (.iconst 1, 1) := by decide +kernel
theorem dX8_isNumber_21 : decode cX8_isNumber 21 = .ok (.goto 4, 3) := by decide +kernel
theorem dX8_isNumber_24 : decode cX8_isNumber 24 = .ok (.iconst 0, 1) := by decide +kernel
theorem dX8_isNumber_25 : decode cX8_isNumber 25 = .ok (.ireturn, 1) := by decide +kernel
set_option maxRecDepth 20000 in
theorem ggX8_word_X10_of : GoodIn wsX8_word wsX10_of := goodIn_r _ [9, 10, 11, 12] (by decide +kernel) (by decide +kernel)
set_option maxRecDepth 20000 in
theorem gX8_word_X10_of : GoodIn wsX8_word (va_wsS RX8 78 yX10_of wsX10_of) := goodIn_app (goodIn_of _ (by decide +kernel)) ggX8_word_X10_of
theorem dX8_word_0 : decode cX8_word 0 = .ok (.aload_n 0, 1) := by decide +kernel
theorem dX8_word_1 : decode cX8_word 1 = .ok (.getfield 36, 3) := by decide +kernel
theorem dX8_word_4 : decode cX8_word 4 = .ok (.ifCond .ne 31, 3) := by decide +kernel
theorem dX8_word_7 : decode cX8_word 7 = .ok (.aload_n 0, 1) := by decide +kernel
theorem dX8_word_8 : decode cX8_word 8 = .ok (.getfield 15, 3) := by decide +kernel
theorem dX8_word_11 : decode cX8_word 11 = .ok (.aload_n 0, 1) := by decide +kernel
theorem dX8_word_12 : decode cX8_word 12 = .ok (.getfield 30, 3) := by decide +kernel
theorem dX8_word_15 : decode cX8_word 15 = .ok (.iaload, 1) := by decide +kernel
theorem dX8_word_16 : decode cX8_word 16 = .ok (.iconst 3, 1) := by decide +kernel
theorem dX8_word_17 : decode cX8_word 17 = .ok (.if_icmp .ne 18, 3) := by decide +kernel
theorem dX8_word_20 : decode cX8_word 20 = .ok (.aload_n 0, 1) := by decide +kernel
theorem dX8_word_21 : decode cX8_word 21 = .ok (.getfield 22, 3) := by decide +kernel
theorem dX8_word_24 : decode cX8_word 24 = .ok (.aload_n 0, 1) := by decide +kernel
theorem dX8_word_25 : decode cX8_word 25 = .ok (.getfield 30, 3) := by decide +kernel
theorem dX8_word_28 : decode cX8_word 28 = .ok (.laload, 1) := by decide +kernel
theorem dX8_word_29 : decode cX8_word 29 = .ok (.invokestatic 78, 3) := by decide +kernel
theorem dX8_word_32 : decode cX8_word 32 = .ok (.goto 6, 3) := by decide +kernel
theorem dX8_word_35 : decode cX8_word 35 = .ok (.getstatic 92, 3) := by decide +kernel
theorem dX8_word_38 : decode cX8_word 38 = .ok (.areturn, 1) := by decide +kernel
theorem dX8_packed_0 : decode cX8_packed 0 = .ok (.aload_n 0, 1) := by decide +kernel
theorem dX8_packed_1 : decode cX8_packed 1 = .ok (.getfield 22, 3) := by decide +kernel
theorem dX8_packed_4 : decode cX8_packed 4 = .ok (.aload_n 0, 1) := by decide +kernel
theorem dX8_packed_5 : decode cX8_packed 5 = .ok (.getfield 30, 3) := by decide +kernel
theorem dX8_packed_8 : decode cX8_packed 8 = .ok (.laload, 1) := by decide +kernel
theorem dX8_packed_9 : decode cX8_packed 9 = .ok (.lreturn, 1) := by decide +kernel
theorem dX8_number_0 : decode cX8_number 0 = .ok (.aload_n 0, 1) := by decide +kernel
theorem dX8_number_1 : decode cX8_number 1 = .ok (.getfield 22, 3) := by decide +kernel
theorem dX8_number_4 : decode cX8_number 4 = .ok (.aload_n 0, 1) := by decide +kernel
theorem dX8_number_5 : decode cX8_number 5 = .ok (.getfield 30, 3) := by decide +kernel
theorem dX8_number_8 : decode cX8_number 8 = .ok (.laload, 1) := by decide +kernel
theorem dX8_number_9 : decode cX8_number 9 = .ok (.l2i, 1) := by decide +kernel
theorem dX8_number_10 : decode cX8_number 10 = .ok (.ireturn, 1) := by decide +kernel
theorem dX8_step_0 : decode cX8_step 0 = .ok (.aload_n 0, 1) := by decide +kernel
theorem dX8_step_1 : decode cX8_step 1 = .ok (.getfield 36, 3) := by decide +kernel
theorem dX8_step_4 : decode cX8_step 4 = .ok (.ifCond .ne 25, 3) := by decide +kernel
theorem dX8_step_7 : decode cX8_step 7 = .ok (.aload_n 0, 1) := by decide +kernel
theorem dX8_step_8 : decode cX8_step 8 = .ok (.getfield 15, 3) := by decide +kernel
theorem dX8_step_11 : decode cX8_step 11 = .ok (.aload_n 0, 1) := by decide +kernel
theorem dX8_step_12 : decode cX8_step 12 = .ok (.getfield 30, 3) := by decide +kernel
theorem dX8_step_15 : decode cX8_step 15 = .ok (.iaload, 1) := by decide +kernel
theorem dX8_step_16 : decode cX8_step 16 = .ok (.ifCond .eq 13, 3) := by decide +kernel
theorem dX8_step_19 : decode cX8_step 19 = .ok (.aload_n 0, 1) := by decide +kernel
theorem dX8_step_20 : decode cX8_step 20 = .ok (.dup, 1) := by decide +kernel
theorem dX8_step_21 : decode cX8_step 21 = .ok (.getfield 30, 3) := by decide +kernel
theorem dX8_step_24 : decode cX8_step 24 = .ok (.iconst 1, 1) := by decide +kernel
theorem dX8_step_25 : decode cX8_step 25 = .ok (.iadd, 1) := by decide +kernel
theorem dX8_step_26 : decode cX8_step 26 = .ok (.putfield 30, 3) := by decide +kernel
theorem dX8_step_29 : decode cX8_step 29 = .ok (.return_, 1) := by decide +kernel
set_option maxRecDepth 20000 in
theorem ggX8_need_X8_isAt : GoodIn wsX8_need wsX8_isAt := goodIn_r _ [5, 6, 7, 8, 9, 19, 20, 21, 22, 23, 24, 25, 26] (by decide +kernel) (by decide +kernel)
set_option maxRecDepth 20000 in
theorem gX8_need_X8_isAt : GoodIn wsX8_need (wsV RX8 96 RX8 yX8_isAt wsX8_isAt) := goodIn_app (goodIn_of _ (by decide +kernel)) ggX8_need_X8_isAt
set_option maxRecDepth 20000 in
theorem ggX8_need_X8_step : GoodIn wsX8_need wsX8_step := goodIn_r _ [13, 6, 7, 8, 19, 20, 21, 22, 23, 24, 25, 26] (by decide +kernel) (by decide +kernel)
set_option maxRecDepth 20000 in
theorem gX8_need_X8_step : GoodIn wsX8_need (wsV RX8 99 RX8 yX8_step wsX8_step) := goodIn_app (goodIn_of _ (by decide +kernel)) ggX8_need_X8_step
set_option maxRecDepth 20000 in
theorem ggX8_need_X8_fail : GoodIn wsX8_need wsX8_fail := goodIn_r _ [17, 6, 18, 8, 19, 20, 21, 22, 23, 24, 25, 26] (by decide +kernel) (by decide +kernel)
set_option maxRecDepth 20000 in
theorem gX8_need_X8_fail : GoodIn wsX8_need (wsV RX8 102 RX8 yX8_fail wsX8_fail) := goodIn_app (goodIn_of _ (by decide +kernel)) ggX8_need_X8_fail
theorem dX8_need_0 : decode cX8_need 0 = .ok (.aload_n 0, 1) := by decide +kernel
theorem dX8_need_1 : decode cX8_need 1 = .ok (.iload_n 1, 1) := by decide +kernel
theorem dX8_need_2 : decode cX8_need 2 = .ok (.invokevirtual 96, 3) := by decide +kernel
theorem dX8_need_5 : decode cX8_need 5 = .ok (.ifCond .eq 10, 3) := by decide +kernel
theorem dX8_need_8 : decode cX8_need 8 = .ok (.aload_n 0, 1) := by decide +kernel
theorem dX8_need_9 : decode cX8_need 9 = .ok (.invokevirtual 99, 3) := by decide +kernel
theorem dX8_need_12 : decode cX8_need 12 = .ok (.goto 8, 3) := by decide +kernel
theorem dX8_need_15 : decode cX8_need 15 = .ok (.aload_n 0, 1) := by decide +kernel
theorem dX8_need_16 : decode cX8_need 16 = .ok (.iconst 1, 1) := by decide +kernel
theorem dX8_need_17 : decode cX8_need 17 = .ok (.invokevirtual 102, 3) := by decide +kernel
theorem dX8_need_20 : decode cX8_need 20 = .ok (.return_, 1) := by decide +kernel
set_option maxRecDepth 20000 in
theorem ggX8_need__X8_isAt_ : GoodIn wsX8_need_ wsX8_isAt_ := goodIn_r _ [5, 6, 7, 8, 9, 10, 20, 21, 22, 23, 24, 25, 26, 27] (by decide +kernel) (by decide +kernel)
set_option maxRecDepth 20000 in
theorem gX8_need__X8_isAt_ : GoodIn wsX8_need_ (wsV RX8 106 RX8 yX8_isAt_ wsX8_isAt_) := goodIn_app (goodIn_of _ (by decide +kernel)) ggX8_need__X8_isAt_
set_option maxRecDepth 20000 in
theorem ggX8_need__X8_step : GoodIn wsX8_need_ wsX8_step := goodIn_r _ [14, 8, 6, 7, 20, 21, 22, 23, 24, 25, 26, 27] (by decide +kernel) (by decide +kernel)
set_option maxRecDepth 20000 in
theorem gX8_need__X8_step : GoodIn wsX8_need_ (wsV RX8 99 RX8 yX8_step wsX8_step) := goodIn_app (goodIn_of _ (by decide +kernel)) ggX8_need__X8_step
set_option maxRecDepth 20000 in
theorem ggX8_need__X8_fail : GoodIn wsX8_need_ wsX8_fail := goodIn_r _ [18, 8, 19, 7, 20, 21, 22, 23, 24, 25, 26, 27] (by decide +kernel) (by decide +kernel)
set_option maxRecDepth 20000 in
theorem gX8_need__X8_fail : GoodIn wsX8_need_ (wsV RX8 102 RX8 yX8_fail wsX8_fail) := goodIn_app (goodIn_of _ (by decide +kernel)) ggX8_need__X8_fail
theorem dX8_need__0 : decode cX8_need_ 0 = .ok (.aload_n 0, 1) := by decide +kernel
theorem dX8_need__1 : decode cX8_need_ 1 = .ok (.aload_n 1, 1) := by decide +kernel
theorem dX8_need__2 : decode cX8_need_ 2 = .ok (.invokevirtual 106, 3) := by decide +kernel
theorem dX8_need__5 : decode cX8_need_ 5 = .ok (.ifCond .eq 10, 3) := by decide +kernel
theorem dX8_need__8 : decode cX8_need_ 8 = .ok (.aload_n 0, 1) := by decide +kernel
theorem dX8_need__9 : decode cX8_need_ 9 = .ok (.invokevirtual 99, 3) := by decide +kernel
theorem dX8_need__12 : decode cX8_need_ 12 = .ok (.goto 8, 3) := by decide +kernel
theorem dX8_need__15 : decode cX8_need_ 15 = .ok (.aload_n 0, 1) := by decide +kernel
theorem dX8_need__16 : decode cX8_need_ 16 = .ok (.iconst 1, 1) := by decide +kernel
theorem dX8_need__17 : decode cX8_need_ 17 = .ok (.invokevirtual 102, 3) := by decide +kernel
theorem dX8_need__20 : decode cX8_need_ 20 = .ok (.return_, 1) := by decide +kernel
set_option maxRecDepth 20000 in
theorem ggX8_stepOrFail_X8_step : GoodIn wsX8_stepOrFail wsX8_step := goodIn_r _ [5, 6, 7, 8, 14, 15, 16, 17, 18, 19, 20, 21] (by decide +kernel) (by decide +kernel)
set_option maxRecDepth 20000 in
theorem gX8_stepOrFail_X8_step : GoodIn wsX8_stepOrFail (wsV RX8 99 RX8 yX8_step wsX8_step) := goodIn_app (goodIn_of _ (by decide +kernel)) ggX8_stepOrFail_X8_step
set_option maxRecDepth 20000 in
theorem ggX8_stepOrFail_X8_fail : GoodIn wsX8_stepOrFail wsX8_fail := goodIn_r _ [12, 6, 13, 8, 14, 15, 16, 17, 18, 19, 20, 21] (by decide +kernel) (by decide +kernel)
set_option maxRecDepth 20000 in
theorem gX8_stepOrFail_X8_fail : GoodIn wsX8_stepOrFail (wsV RX8 102 RX8 yX8_fail wsX8_fail) := goodIn_app (goodIn_of _ (by decide +kernel)) ggX8_stepOrFail_X8_fail
theorem dX8_stepOrFail_0 : decode cX8_stepOrFail 0 = .ok (.iload_n 1, 1) := by decide +kernel
theorem dX8_stepOrFail_1 : decode cX8_stepOrFail 1 = .ok (.ifCond .eq 10, 3) := by decide +kernel
theorem dX8_stepOrFail_4 : decode cX8_stepOrFail 4 = .ok (.aload_n 0, 1) := by decide +kernel
theorem dX8_stepOrFail_5 : decode cX8_stepOrFail 5 = .ok (.invokevirtual 99, 3) := by decide +kernel
theorem dX8_stepOrFail_8 : decode cX8_stepOrFail 8 = .ok (.goto 8, 3) := by decide +kernel
theorem dX8_stepOrFail_11 : decode cX8_stepOrFail 11 = .ok (.aload_n 0, 1) := by decide +kernel
theorem dX8_stepOrFail_12 : decode cX8_stepOrFail 12 = .ok (.iload_n 2, 1) := by decide +kernel
theorem dX8_stepOrFail_13 : decode cX8_stepOrFail 13 = .ok (.invokevirtual 102, 3) := by decide +kernel
theorem dX8_stepOrFail_16 : decode cX8_stepOrFail 16 = .ok (.return_, 1) := by decide +kernel
set_option maxRecDepth 20000 in
theorem ggX8_takeNumberBelow_X8_number : GoodIn wsX8_takeNumberBelow wsX8_number := goodIn_r _ [5, 6, 7, 27, 28, 29, 30, 31, 32, 33, 34] (by decide +kernel) (by decide +kernel)
set_option maxRecDepth 20000 in
theorem gX8_takeNumberBelow_X8_number : GoodIn wsX8_takeNumberBelow (wsV RX8 109 RX8 yX8_number wsX8_number) := goodIn_app (goodIn_of _ (by decide +kernel)) ggX8_takeNumberBelow_X8_number
set_option maxRecDepth 20000 in
theorem ggX8_takeNumberBelow_X8_isNumber : GoodIn wsX8_takeNumberBelow wsX8_isNumber := goodIn_r _ [11, 12, 13, 7, 27, 28, 29, 30, 31, 32, 33, 34] (by decide +kernel) (by decide +kernel)
set_option maxRecDepth 20000 in
theorem gX8_takeNumberBelow_X8_isNumber : GoodIn wsX8_takeNumberBelow (wsV RX8 113 RX8 yX8_isNumber wsX8_isNumber) := goodIn_app (goodIn_of _ (by decide +kernel)) ggX8_takeNumberBelow_X8_isNumber
set_option maxRecDepth 20000 in
theorem ggX8_takeNumberBelow_X8_stepOrFail : GoodIn wsX8_takeNumberBelow wsX8_stepOrFail := goodIn_r _ [17, 18, 19, 20, 4, 21, 12, 13, 7, 22, 23, 24, 25, 26, 27, 28, 29, 30, 31, 32, 33, 34] (by decide +kernel) (by decide +kernel)
set_option maxRecDepth 20000 in
theorem gX8_takeNumberBelow_X8_stepOrFail : GoodIn wsX8_takeNumberBelow (wsV RX8 117 RX8 yX8_stepOrFail wsX8_stepOrFail) := goodIn_app (goodIn_of _ (by decide +kernel)) ggX8_takeNumberBelow_X8_stepOrFail
set_option maxRecDepth 20000 in
theorem ggX8_takeNumberBelow_X8_fail : GoodIn wsX8_takeNumberBelow wsX8_fail := goodIn_r _ [25, 12, 26, 7, 27, 28, 29, 30, 31, 32, 33, 34] (by decide +kernel) (by decide +kernel)
set_option maxRecDepth 20000 in
theorem gX8_takeNumberBelow_X8_fail : GoodIn wsX8_takeNumberBelow (wsV RX8 102 RX8 yX8_fail wsX8_fail) := goodIn_app (goodIn_of _ (by decide +kernel)) ggX8_takeNumberBelow_X8_fail
theorem dX8_takeNumberBelow_0 : decode cX8_takeNumberBelow 0 = .ok (.aload_n 0, 1) := by decide +kernel
theorem dX8_takeNumberBelow_1 : decode cX8_takeNumberBelow 1 = .ok (.invokevirtual 109, 3) := by decide +kernel
theorem dX8_takeNumberBelow_4 : decode cX8_takeNumberBelow 4 = .ok (.istore_n 2, 1) := by decide +kernel
theorem dX8_takeNumberBelow_5 : decode cX8_takeNumberBelow 5 = .ok (.aload_n 0, 1) := by decide +kernel
theorem dX8_takeNumberBelow_6 : decode cX8_takeNumberBelow 6 = .ok (.invokevirtual 113, 3) := by decide +kernel
theorem dX8_takeNumberBelow_9 : decode cX8_takeNumberBelow 9 = .ok (.ifCond .eq 21, 3) := by decide +kernel
theorem dX8_takeNumberBelow_12 : decode cX8_takeNumberBelow 12 = .ok (.aload_n 0, 1) := by decide +kernel
theorem dX8_takeNumberBelow_13 : decode cX8_takeNumberBelow 13 = .ok (.iload_n 2, 1) := by decide +kernel
theorem dX8_takeNumberBelow_14 : decode cX8_takeNumberBelow 14 = .ok (.iload_n 1, 1) := by decide +kernel
theorem dX8_takeNumberBelow_15 : decode cX8_takeNumberBelow 15 = .ok (.if_icmp .ge 7, 3) := by decide +kernel
theorem dX8_takeNumberBelow_18 : decode cX8_takeNumberBelow 18 = .ok (.iconst 1, 1) := by decide +kernel
theorem dX8_takeNumberBelow_19 : decode cX8_takeNumberBelow 19 = .ok (.goto 4, 3) := by decide +kernel
theorem dX8_takeNumberBelow_22 : decode cX8_takeNumberBelow 22 = .ok (.iconst 0, 1) := by decide +kernel
theorem dX8_takeNumberBelow_23 : decode cX8_takeNumberBelow 23 = .ok (.iconst 4, 1) := by decide +kernel
theorem dX8_takeNumberBelow_24 : decode cX8_takeNumberBelow 24 = .ok (.invokevirtual 117, 3) := by decide +kernel
theorem dX8_takeNumberBelow_27 : decode cX8_takeNumberBelow 27 = .ok (.goto 8, 3) := by decide +kernel
theorem dX8_takeNumberBelow_30 : decode cX8_takeNumberBelow 30 = .ok (.aload_n 0, 1) := by decide +kernel
theorem dX8_takeNumberBelow_31 : decode cX8_takeNumberBelow 31 = .ok (.iconst 1, 1) := by decide +kernel
theorem dX8_takeNumberBelow_32 : decode cX8_takeNumberBelow 32 = .ok (.invokevirtual 102, 3) := by decide +kernel
theorem dX8_takeNumberBelow_35 : decode cX8_takeNumberBelow 35 = .ok (.iload_n 2, 1) := by decide +kernel
theorem dX8_takeNumberBelow_36 : decode cX8_takeNumberBelow 36 = .ok (.ireturn, 1) := by decide +kernel
theorem dX9_init_0 : decode cX9_init 0 = .ok (.aload_n 0, 1) := by decide +kernel
theorem dX9_init_1 : decode cX9_init 1 = .ok (.invokespecial 3, 3) := by decide +kernel
theorem dX9_init_4 : decode cX9_init 4 = .ok (.aload_n 0, 1) := by decide +kernel
theorem dX9_init_5 : decode cX9_init 5 = .ok (.bipush 6, 2) := by decide +kernel
theorem dX9_init_7 : decode cX9_init 7 = .ok (.newarray .int, 2) := by decide +kernel
theorem dX9_init_9 : decode cX9_init 9 = .ok (.putfield 11, 3) := by decide +kernel
theorem dX9_init_12 : decode cX9_init 12 = .ok (.aload_n 0, 1) := by decide +kernel
theorem dX9_init_13 : decode cX9_init 13 = .ok (.bipush 6, 2) := by decide +kernel
theorem dX9_init_15 : decode cX9_init 15 = .ok (.newarray .int, 2) := by decide +kernel
theorem dX9_init_17 : decode cX9_init 17 = .ok (.putfield 15, 3) := by decide +kernel
theorem dX9_init_20 : decode cX9_init 20 = .ok (.aload_n 0, 1) := by decide +kernel
theorem dX9_init_21 : decode cX9_init 21 = .ok (.bipush 6, 2) := by decide +kernel
theorem dX9_init_23 : decode cX9_init 23 = .ok (.newarray .int, 2) := by decide +kernel
theorem dX9_init_25 : decode cX9_init 25 = .ok (.putfield 18, 3) := by decide +kernel
theorem dX9_init_28 : decode cX9_init 28 = .ok (.aload_n 0, 1) := by decide +kernel
theorem dX9_init_29 : decode cX9_init 29 = .ok (.iconst 0, 1) := by decide +kernel
theorem dX9_init_30 : decode cX9_init 30 = .ok (.putfield 21, 3) := by decide +kernel
theorem dX9_init_33 : decode cX9_init 33 = .ok (.aload_n 0, 1) := by decide +kernel
theorem dX9_init_34 : decode cX9_init 34 = .ok (.iconst 0, 1) := by decide +kernel
theorem dX9_init_35 : decode cX9_init 35 = .ok (.putfield 25, 3) := by decide +kernel
theorem dX9_init_38 : decode cX9_init 38 = .ok (.aload_n 0, 1) := by decide +kernel
theorem dX9_init_39 : decode cX9_init 39 = .ok (.iconst 0, 1) := by decide +kernel
theorem dX9_init_40 : decode cX9_init 40 = .ok (.putfield 28, 3) := by decide +kernel
theorem dX9_init_43 : decode cX9_init 43 = .ok (.return_, 1) := by decide +kernel
set_option maxRecDepth 20000 in
theorem ggX9_grow_X9_join : GoodIn wsX9_grow wsX9_join := goodIn_r _ [10, 4, 1, 11, 3, 12, 13, 14, 9, 15, 5, 16, 17, 18, 19, 20, 21, 22, 23, 24, 25, 26, 27, 28, 29, 30, 31, 32, 33, 34, 35, 36, 37, 6, 7, 8, 38, 39, 40, 41, 42, 43, 44, 45, 46, 47, 48, 49, 50, 51, 52, 53, 54, 55, 56] (by decide +kernel) (by decide +kernel)
set_option maxRecDepth 20000 in
theorem gX9_grow_X9_join : GoodIn wsX9_grow (wsV RX9 36 RX9 yX9_join wsX9_join) := goodIn_app (goodIn_of _ (by decide +kernel)) ggX9_grow_X9_join
theorem dX9_grow_0 : decode cX9_grow 0 = .ok (.aload_n 0, 1) := by decide +kernel
theorem dX9_grow_1 : decode cX9_grow 1 = .ok (.iconst 0, 1) := by decide +kernel
theorem dX9_grow_2 : decode cX9_grow 2 = .ok (.putfield 21, 3) := by decide +kernel
theorem dX9_grow_5 : decode cX9_grow 5 = .ok (.iconst 0, 1) := by decide +kernel
theorem dX9_grow_6 : decode cX9_grow 6 = .ok (.istore_n 3, 1) := by decide +kernel
theorem dX9_grow_7 : decode cX9_grow 7 = .ok (.iload_n 3, 1) := by decide +kernel
theorem dX9_grow_8 : decode cX9_grow 8 = .ok (.aload_n 1, 1) := by decide +kernel
theorem dX9_grow_9 : decode cX9_grow 9 = .ok (.getfield 31, 3) := by decide +kernel
theorem dX9_grow_12 : decode cX9_grow 12 = .ok (.if_icmp .ge 46, 3) := by decide +kernel
theorem dX9_grow_15 : decode cX9_grow 15 = .ok (.iload_n 2, 1) := by decide +kernel
theorem dX9_grow_16 : decode cX9_grow 16 = .ok (.iload_n 3, 1) := by decide +kernel
theorem dX9_grow_17 : decode cX9_grow 17 = .ok (.ishr, 1) := by decide +kernel
theorem dX9_grow_18 : decode cX9_grow 18 = .ok (.iconst 1, 1) := by decide +kernel
theorem dX9_grow_19 : decode cX9_grow 19 = .ok (.iand, 1) := by decide +kernel
theorem dX9_grow_20 : decode cX9_grow 20 = .ok (.ifCond .eq 32, 3) := by decide +kernel
theorem dX9_grow_23 : decode cX9_grow 23 = .ok (.aload_n 0, 1) := by decide +kernel
theorem dX9_grow_24 : decode cX9_grow 24 = .ok (.getfield 21, 3) := by decide +kernel
theorem dX9_grow_27 : decode cX9_grow 27 = .ok (.bipush 6, 2) := by decide +kernel
theorem dX9_grow_29 : decode cX9_grow 29 = .ok (.if_icmp .ge 23, 3) := by decide +kernel
theorem dX9_grow_32 : decode cX9_grow 32 = .ok (.aload_n 0, 1) := by decide +kernel
theorem dX9_grow_33 : decode cX9_grow 33 = .ok (.getfield 11, 3) := by decide +kernel
theorem dX9_grow_36 : decode cX9_grow 36 = .ok (.aload_n 0, 1) := by decide +kernel
theorem dX9_grow_37 : decode cX9_grow 37 = .ok (.getfield 21, 3) := by decide +kernel
theorem dX9_grow_40 : decode cX9_grow 40 = .ok (.iload_n 3, 1) := by decide +kernel
theorem dX9_grow_41 : decode cX9_grow 41 = .ok (.iastore, 1) := by decide +kernel
theorem dX9_grow_42 : decode cX9_grow 42 = .ok (.aload_n 0, 1) := by decide +kernel
theorem dX9_grow_43 : decode cX9_grow 43 = .ok (.dup, 1) := by decide +kernel
theorem dX9_grow_44 : decode cX9_grow 44 = .ok (.getfield 21, 3) := by decide +kernel
theorem dX9_grow_47 : decode cX9_grow 47 = .ok (.iconst 1, 1) := by decide +kernel
theorem dX9_grow_48 : decode cX9_grow 48 = .ok (.iadd, 1) := by decide +kernel
theorem dX9_grow_49 : decode cX9_grow 49 = .ok (.putfield 21, 3) := by decide +kernel
theorem dX9_grow_52 : decode cX9_grow 52 = .ok (.iinc 3 1, 3) := by decide +kernel
theorem dX9_grow_55 : decode cX9_grow 55 = .ok (.goto (-48), 3) := by decide +kernel
theorem dX9_grow_58 : decode cX9_grow 58 = .ok (.aload_n 0, 1) := by decide +kernel
theorem dX9_grow_59 : decode cX9_grow 59 = .ok (.sipush 1000, 3) := by decide +kernel
theorem dX9_grow_62 : decode cX9_grow 62 = .ok (.putfield 25, 3) := by decide +kernel
theorem dX9_grow_65 : decode cX9_grow 65 = .ok (.aload_n 0, 1) := by decide +kernel
theorem dX9_grow_66 : decode cX9_grow 66 = .ok (.iconst 0, 1) := by decide +kernel
theorem dX9_grow_67 : decode cX9_grow 67 = .ok (.putfield 28, 3) := by decide +kernel
theorem dX9_grow_70 : decode cX9_grow 70 = .ok (.aload_n 0, 1) := by decide +kernel
theorem dX9_grow_71 : decode cX9_grow 71 = .ok (.aload_n 1, 1) := by decide +kernel
theorem dX9_grow_72 : decode cX9_grow 72 = .ok (.iconst 1, 1) := by decide +kernel
theorem dX9_grow_73 : decode cX9_grow 73 = .ok (.iconst 0, 1) := by decide +kernel
theorem dX9_grow_74 : decode cX9_grow 74 = .ok (.invokevirtual 36, 3) := by decide +kernel
theorem dX9_grow_77 : decode cX9_grow 77 = .ok (.return_, 1) := by decide +kernel
set_option maxRecDepth 20000 in
theorem ggX9_join_X9_keep : GoodIn wsX9_join wsX9_keep := goodIn_r _ [9, 1, 10, 3, 11, 12, 13, 14, 15, 36, 37, 38, 39, 40, 41] (by decide +kernel) (by decide +kernel)
set_option maxRecDepth 20000 in
theorem gX9_join_X9_keep : GoodIn wsX9_join (wsV RX9 40 RX9 yX9_keep wsX9_keep) := goodIn_app (goodIn_of _ (by decide +kernel)) ggX9_join_X9_keep
set_option maxRecDepth 20000 in
theorem ggX9_join_X9_leadsBack : GoodIn wsX9_join wsX9_leadsBack := goodIn_r _ [19, 3, 36, 37, 38, 39, 40, 41] (by decide +kernel) (by decide +kernel)
set_option maxRecDepth 20000 in
theorem gX9_join_X9_leadsBack : GoodIn wsX9_join (wsV RX9 44 RX9 yX9_leadsBack wsX9_leadsBack) := goodIn_app (goodIn_of _ (by decide +kernel)) ggX9_join_X9_leadsBack
set_option maxRecDepth 20000 in
theorem ggX9_join_X3_apart : GoodIn wsX9_join wsX3_apart := goodIn_r _ [24, 25, 26, 27, 28, 29, 30, 31, 32, 42, 43, 44, 45, 46, 47, 48, 49, 50, 51, 52, 53, 54] (by decide +kernel) (by decide +kernel)
set_option maxRecDepth 20000 in
theorem gX9_join_X3_apart : GoodIn wsX9_join (wsV RX9 48 RX3 yX3_apart wsX3_apart) := goodIn_app (goodIn_of _ (by decide +kernel)) ggX9_join_X3_apart
set_option maxRecDepth 20000 in
theorem ggX9_join_X9_join : GoodIn wsX9_join wsX9_join := goodIn_r _ [0, 1, 2, 3, 4, 5, 6, 7, 8, 9, 10, 11, 12, 13, 14, 15, 16, 17, 18, 19, 20, 21, 22, 23, 24, 25, 26, 27, 28, 29, 30, 31, 32, 33, 34, 35, 36, 37, 38, 39, 40, 41, 42, 43, 44, 45, 46, 47, 48, 49, 50, 51, 52, 53, 54] (by decide +kernel) (by decide +kernel)
set_option maxRecDepth 20000 in
theorem gX9_join_X9_join : GoodIn wsX9_join (wsV RX9 36 RX9 yX9_join wsX9_join) := goodIn_app (goodIn_of _ (by decide +kernel)) ggX9_join_X9_join
theorem dX9_join_0 : decode cX9_join 0 = .ok (.iload_n 3, 1) := by decide +kernel
theorem dX9_join_1 : decode cX9_join 1 = .ok (.aload_n 0, 1) := by decide +kernel
theorem dX9_join_2 : decode cX9_join 2 = .ok (.getfield 25, 3) := by decide +kernel
theorem dX9_join_5 : decode cX9_join 5 = .ok (.if_icmp .le 4, 3) := by decide +kernel
theorem dX9_join_8 : decode cX9_join 8 = .ok (.return_, 1) := by decide +kernel
theorem dX9_join_9 : decode cX9_join 9 = .ok (.iload_n 2, 1) := by decide +kernel
theorem dX9_join_10 : decode cX9_join 10 = .ok (.aload_n 0, 1) := by decide +kernel
theorem dX9_join_11 : decode cX9_join 11 = .ok (.getfield 21, 3) := by decide +kernel
theorem dX9_join_14 : decode cX9_join 14 = .ok (.if_icmp .ge 9, 3) := by decide +kernel
theorem dX9_join_17 : decode cX9_join 17 = .ok (.iload_n 2, 1) := by decide +kernel
theorem dX9_join_18 : decode cX9_join 18 = .ok (.bipush 6, 2) := by decide +kernel
theorem dX9_join_20 : decode cX9_join 20 = .ok (.if_icmp .lt 9, 3) := by decide +kernel
theorem dX9_join_23 : decode cX9_join 23 = .ok (.aload_n 0, 1) := by decide +kernel
theorem dX9_join_24 : decode cX9_join 24 = .ok (.iload_n 3, 1) := by decide +kernel
theorem dX9_join_25 : decode cX9_join 25 = .ok (.invokevirtual 40, 3) := by decide +kernel
theorem dX9_join_28 : decode cX9_join 28 = .ok (.return_, 1) := by decide +kernel
theorem dX9_join_29 : decode cX9_join 29 = .ok (.iconst 0, 1) := by decide +kernel
theorem dX9_join_30 : decode cX9_join 30 = .ok (.istore 4, 2) := by decide +kernel
theorem dX9_join_32 : decode cX9_join 32 = .ok (.iload 4, 2) := by decide +kernel
theorem dX9_join_34 : decode cX9_join 34 = .ok (.aload_n 0, 1) := by decide +kernel
theorem dX9_join_35 : decode cX9_join 35 = .ok (.getfield 21, 3) := by decide +kernel
theorem dX9_join_38 : decode cX9_join 38 = .ok (.if_icmp .ge 54, 3) := by decide +kernel
theorem dX9_join_41 : decode cX9_join 41 = .ok (.aload_n 0, 1) := by decide +kernel
theorem dX9_join_42 : decode cX9_join 42 = .ok (.iload 4, 2) := by decide +kernel
theorem dX9_join_44 : decode cX9_join 44 = .ok (.iload_n 2, 1) := by decide +kernel
theorem dX9_join_45 : decode cX9_join 45 = .ok (.invokevirtual 44, 3) := by decide +kernel
theorem dX9_join_48 : decode cX9_join 48 = .ok (.ifCond .ne 38, 3) := by decide +kernel
theorem dX9_join_51 : decode cX9_join 51 = .ok (.aload_n 0, 1) := by decide +kernel
theorem dX9_join_52 : decode cX9_join 52 = .ok (.getfield 15, 3) := by decide +kernel
theorem dX9_join_55 : decode cX9_join 55 = .ok (.iload_n 2, 1) := by decide +kernel
theorem dX9_join_56 : decode cX9_join 56 = .ok (.iload 4, 2) := by decide +kernel
theorem dX9_join_58 : decode cX9_join 58 = .ok (.iastore, 1) := by decide +kernel
theorem dX9_join_59 : decode cX9_join 59 = .ok (.aload_n 0, 1) := by decide +kernel
theorem dX9_join_60 : decode cX9_join 60 = .ok (.aload_n 1, 1) := by decide +kernel
theorem dX9_join_61 : decode cX9_join 61 = .ok (.iload_n 2, 1) := by decide +kernel
theorem dX9_join_62 : decode cX9_join 62 = .ok (.iconst 1, 1) := by decide +kernel
theorem dX9_join_63 : decode cX9_join 63 = .ok (.iadd, 1) := by decide +kernel
theorem dX9_join_64 : decode cX9_join 64 = .ok (.iload_n 3, 1) := by decide +kernel
theorem dX9_join_65 : decode cX9_join 65 = .ok (.aload_n 1, 1) := by decide +kernel
theorem dX9_join_66 : decode cX9_join 66 = .ok (.aload_n 0, 1) := by decide +kernel
theorem dX9_join_67 : decode cX9_join 67 = .ok (.getfield 11, 3) := by decide +kernel
theorem dX9_join_70 : decode cX9_join 70 = .ok (.iload_n 2, 1) := by decide +kernel
theorem dX9_join_71 : decode cX9_join 71 = .ok (.iaload, 1) := by decide +kernel
theorem dX9_join_72 : decode cX9_join 72 = .ok (.aload_n 0, 1) := by decide +kernel
theorem dX9_join_73 : decode cX9_join 73 = .ok (.getfield 11, 3) := by decide +kernel
theorem dX9_join_76 : decode cX9_join 76 = .ok (.iload 4, 2) := by decide +kernel
theorem dX9_join_78 : decode cX9_join 78 = .ok (.iaload, 1) := by decide +kernel
theorem dX9_join_79 : decode cX9_join 79 = .ok (.invokevirtual 48, 3) := by decide +kernel
theorem dX9_join_82 : decode cX9_join 82 = .ok (.iadd, 1) := by decide +kernel
theorem dX9_join_83 : decode cX9_join 83 = .ok (.invokevirtual 36, 3) := by decide +kernel
theorem dX9_join_86 : decode cX9_join 86 = .ok (.iinc 4 1, 3) := by decide +kernel
theorem dX9_join_89 : decode cX9_join 89 = .ok (.goto (-57), 3) := by decide +kernel
theorem dX9_join_92 : decode cX9_join 92 = .ok (.return_, 1) := by decide +kernel
theorem dX9_leadsBack_0 : decode cX9_leadsBack 0 = .ok (.iload_n 1, 1) := by decide +kernel
theorem dX9_leadsBack_1 : decode cX9_leadsBack 1 = .ok (.istore_n 3, 1) := by decide +kernel
theorem dX9_leadsBack_2 : decode cX9_leadsBack 2 = .ok (.iconst 0, 1) := by decide +kernel
theorem dX9_leadsBack_3 : decode cX9_leadsBack 3 = .ok (.istore 4, 2) := by decide +kernel
theorem dX9_leadsBack_5 : decode cX9_leadsBack 5 = .ok (.iload 4, 2) := by decide +kernel
theorem dX9_leadsBack_7 : decode cX9_leadsBack 7 = .ok (.bipush 6, 2) := by decide +kernel
theorem dX9_leadsBack_9 : decode cX9_leadsBack 9 = .ok (.if_icmp .ge 25, 3) := by decide +kernel
theorem dX9_leadsBack_12 : decode cX9_leadsBack 12 = .ok (.iload_n 3, 1) := by decide +kernel
theorem dX9_leadsBack_13 : decode cX9_leadsBack 13 = .ok (.ifCond .le 21, 3) := by decide +kernel
theorem dX9_leadsBack_16 : decode cX9_leadsBack 16 = .ok (.iload_n 3, 1) := by decide +kernel
theorem dX9_leadsBack_17 : decode cX9_leadsBack 17 = .ok (.iload_n 2, 1) := by decide +kernel
theorem dX9_leadsBack_18 : decode cX9_leadsBack 18 = .ok (.if_icmp .ge 16, 3) := by decide +kernel
theorem dX9_leadsBack_21 : decode cX9_leadsBack 21 = .ok (.aload_n 0, 1) := by decide +kernel
theorem dX9_leadsBack_22 : decode cX9_leadsBack 22 = .ok (.getfield 15, 3) := by decide +kernel
theorem dX9_leadsBack_25 : decode cX9_leadsBack 25 = .ok (.iload_n 3, 1) := by decide +kernel
theorem dX9_leadsBack_26 : decode cX9_leadsBack 26 = .ok (.iaload, 1) := by decide +kernel
theorem dX9_leadsBack_27 : decode cX9_leadsBack 27 = .ok (.istore_n 3, 1) := by decide +kernel
theorem dX9_leadsBack_28 : decode cX9_leadsBack 28 = .ok (.iinc 4 1, 3) := by decide +kernel
theorem dX9_leadsBack_31 : decode cX9_leadsBack 31 = .ok (.goto (-26), 3) := by decide +kernel
theorem dX9_leadsBack_34 : decode cX9_leadsBack 34 = .ok (.iload_n 3, 1) := by decide +kernel
theorem dX9_leadsBack_35 : decode cX9_leadsBack 35 = .ok (.iload_n 2, 1) := by decide +kernel
theorem dX9_leadsBack_36 : decode cX9_leadsBack 36 = .ok (.if_icmp .ne 7, 3) := by decide +kernel
theorem dX9_leadsBack_39 : decode cX9_leadsBack 39 = .ok (.iconst 1, 1) := by decide +kernel
theorem dX9_leadsBack_40 : decode cX9_leadsBack 40 = .ok (.goto 4, 3) := by decide +kernel
theorem dX9_leadsBack_43 : decode cX9_leadsBack 43 = .ok (.iconst 0, 1) := by decide +kernel
theorem dX9_leadsBack_44 : decode cX9_leadsBack 44 = .ok (.ireturn, 1) := by decide +kernel
theorem dX9_keep_0 : decode cX9_keep 0 = .ok (.iload_n 1, 1) := by decide +kernel
theorem dX9_keep_1 : decode cX9_keep 1 = .ok (.aload_n 0, 1) := by decide +kernel
theorem dX9_keep_2 : decode cX9_keep 2 = .ok (.getfield 25, 3) := by decide +kernel
theorem dX9_keep_5 : decode cX9_keep 5 = .ok (.if_icmp .ge 28, 3) := by decide +kernel
theorem dX9_keep_8 : decode cX9_keep 8 = .ok (.aload_n 0, 1) := by decide +kernel
theorem dX9_keep_9 : decode cX9_keep 9 = .ok (.iload_n 1, 1) := by decide +kernel
theorem dX9_keep_10 : decode cX9_keep 10 = .ok (.putfield 25, 3) := by decide +kernel
theorem dX9_keep_13 : decode cX9_keep 13 = .ok (.aload_n 0, 1) := by decide +kernel
theorem dX9_keep_14 : decode cX9_keep 14 = .ok (.iconst 0, 1) := by decide +kernel
theorem dX9_keep_15 : decode cX9_keep 15 = .ok (.putfield 28, 3) := by decide +kernel
theorem dX9_keep_18 : decode cX9_keep 18 = .ok (.aload_n 0, 1) := by decide +kernel
theorem dX9_keep_19 : decode cX9_keep 19 = .ok (.getfield 15, 3) := by decide +kernel
theorem dX9_keep_22 : decode cX9_keep 22 = .ok (.iconst 0, 1) := by decide +kernel
theorem dX9_keep_23 : decode cX9_keep 23 = .ok (.aload_n 0, 1) := by decide +kernel
theorem dX9_keep_24 : decode cX9_keep 24 = .ok (.getfield 18, 3) := by decide +kernel
theorem dX9_keep_27 : decode cX9_keep 27 = .ok (.iconst 0, 1) := by decide +kernel
theorem dX9_keep_28 : decode cX9_keep 28 = .ok (.bipush 6, 2) := by decide +kernel
theorem dX9_keep_30 : decode cX9_keep 30 = .ok (.invokestatic 52, 3) := by decide +kernel
theorem dX9_keep_33 : decode cX9_keep 33 = .ok (.aload_n 0, 1) := by decide +kernel
theorem dX9_keep_34 : decode cX9_keep 34 = .ok (.dup, 1) := by decide +kernel
theorem dX9_keep_35 : decode cX9_keep 35 = .ok (.getfield 28, 3) := by decide +kernel
theorem dX9_keep_38 : decode cX9_keep 38 = .ok (.iconst 1, 1) := by decide +kernel
theorem dX9_keep_39 : decode cX9_keep 39 = .ok (.iadd, 1) := by decide +kernel
theorem dX9_keep_40 : decode cX9_keep 40 = .ok (.putfield 28, 3) := by decide +kernel
theorem dX9_keep_43 : decode cX9_keep 43 = .ok (.return_, 1) := by decide +kernel
theorem dX9_joinedTo_0 : decode cX9_joinedTo 0 = .ok (.iload_n 1, 1) := by decide +kernel
theorem dX9_joinedTo_1 : decode cX9_joinedTo 1 = .ok (.iconst 1, 1) := by decide +kernel
theorem dX9_joinedTo_2 : decode cX9_joinedTo 2 = .ok (.if_icmp .lt 11, 3) := by decide +kernel
theorem dX9_joinedTo_5 : decode cX9_joinedTo 5 = .ok (.iload_n 1, 1) := by decide +kernel
theorem dX9_joinedTo_6 : decode cX9_joinedTo 6 = .ok (.aload_n 0, 1) := by decide +kernel
theorem dX9_joinedTo_7 : decode cX9_joinedTo 7 = .ok (.getfield 21, 3) := by decide +kernel
theorem dX9_joinedTo_10 : decode cX9_joinedTo 10 = .ok (.if_icmp .lt 5, 3) := by decide +kernel
theorem dX9_joinedTo_13 : decode cX9_joinedTo 13 = .ok (.iconst (-1), 1) := by decide +kernel
theorem dX9_joinedTo_14 : decode cX9_joinedTo 14 = .ok (.ireturn, 1) := by decide +kernel
theorem dX9_joinedTo_15 : decode cX9_joinedTo 15 = .ok (.aload_n 0, 1) := by decide +kernel
theorem dX9_joinedTo_16 : decode cX9_joinedTo 16 = .ok (.getfield 11, 3) := by decide +kernel
theorem dX9_joinedTo_19 : decode cX9_joinedTo 19 = .ok (.aload_n 0, 1) := by decide +kernel
theorem dX9_joinedTo_20 : decode cX9_joinedTo 20 = .ok (.getfield 18, 3) := by decide +kernel
theorem dX9_joinedTo_23 : decode cX9_joinedTo 23 = .ok (.iload_n 1, 1) := by decide +kernel
theorem dX9_joinedTo_24 : decode cX9_joinedTo 24 = .ok (.iaload, 1) := by decide +kernel
theorem dX9_joinedTo_25 : decode cX9_joinedTo 25 = .ok (.iaload, 1) := by decide +kernel
theorem dX9_joinedTo_26 : decode cX9_joinedTo 26 = .ok (.ireturn, 1) := by decide +kernel
theorem dX10_packedWith_0 : decode cX10_packedWith 0 = .ok (.lload_n 0, 1) := by decide +kernel
theorem dX10_packedWith_1 : decode cX10_packedWith 1 = .ok (.ldc2_w 135, 3) := by decide +kernel
theorem dX10_packedWith_4 : decode cX10_packedWith 4 = .ok (.lmul, 1) := by decide +kernel
theorem dX10_packedWith_5 : decode cX10_packedWith 5 = .ok (.iload_n 2, 1) := by decide +kernel
theorem dX10_packedWith_6 : decode cX10_packedWith 6 = .ok (.bipush 97, 2) := by decide +kernel
theorem dX10_packedWith_8 : decode cX10_packedWith 8 = .ok (.isub, 1) := by decide +kernel
theorem dX10_packedWith_9 : decode cX10_packedWith 9 = .ok (.iconst 1, 1) := by decide +kernel
theorem dX10_packedWith_10 : decode cX10_packedWith 10 = .ok (.iadd, 1) := by decide +kernel
theorem dX10_packedWith_11 : decode cX10_packedWith 11 = .ok (.i2l, 1) := by decide +kernel
theorem dX10_packedWith_12 : decode cX10_packedWith 12 = .ok (.ladd, 1) := by decide +kernel
theorem dX10_packedWith_13 : decode cX10_packedWith 13 = .ok (.lreturn, 1) := by decide +kernel
theorem dX10_of_0 : decode cX10_of 0 = .ok (.iconst 0, 1) := by decide +kernel
theorem dX10_of_1 : decode cX10_of 1 = .ok (.istore_n 2, 1) := by decide +kernel
theorem dX10_of_2 : decode cX10_of 2 = .ok (.iload_n 2, 1) := by decide +kernel
theorem dX10_of_3 : decode cX10_of 3 = .ok (.getstatic 137, 3) := by decide +kernel
theorem dX10_of_6 : decode cX10_of 6 = .ok (.arraylength, 1) := by decide +kernel
theorem dX10_of_7 : decode cX10_of 7 = .ok (.if_icmp .ge 28, 3) := by decide +kernel
theorem dX10_of_10 : decode cX10_of 10 = .ok (.getstatic 137, 3) := by decide +kernel
theorem dX10_of_13 : decode cX10_of 13 = .ok (.iload_n 2, 1) := by decide +kernel
theorem dX10_of_14 : decode cX10_of 14 = .ok (.aaload, 1) := by decide +kernel
theorem dX10_of_15 : decode cX10_of 15 = .ok (.getfield 127, 3) := by decide +kernel
theorem dX10_of_18 : decode cX10_of 18 = .ok (.lload_n 0, 1) := by decide +kernel
theorem dX10_of_19 : decode cX10_of 19 = .ok (.lcmp, 1) := by decide +kernel
theorem dX10_of_20 : decode cX10_of 20 = .ok (.ifCond .ne 9, 3) := by decide +kernel
theorem dX10_of_23 : decode cX10_of 23 = .ok (.getstatic 137, 3) := by decide +kernel
theorem dX10_of_26 : decode cX10_of 26 = .ok (.iload_n 2, 1) := by decide +kernel
theorem dX10_of_27 : decode cX10_of 27 = .ok (.aaload, 1) := by decide +kernel
theorem dX10_of_28 : decode cX10_of 28 = .ok (.areturn, 1) := by decide +kernel
theorem dX10_of_29 : decode cX10_of 29 = .ok (.iinc 2 1, 3) := by decide +kernel
theorem dX10_of_32 : decode cX10_of 32 = .ok (.goto (-30), 3) := by decide +kernel
theorem dX10_of_35 : decode cX10_of 35 = .ok (.getstatic 3, 3) := by decide +kernel
theorem dX10_of_38 : decode cX10_of 38 = .ok (.areturn, 1) := by decide +kernel
set_option maxRecDepth 20000 in
theorem ggX11_init_X3_init : GoodIn wsX11_init wsX3_init := goodIn_r _ [12, 13, 2, 3, 14, 15, 16, 17, 18, 19, 20, 21, 22, 23, 24, 25, 26, 27, 28, 29, 30, 6, 31, 32, 33, 34, 35, 36, 37, 38, 39, 40, 41, 42, 43, 44, 45, 46, 47, 48] (by decide +kernel) (by decide +kernel)
set_option maxRecDepth 20000 in
theorem gX11_init_X3_init : GoodIn wsX11_init (wsX3_init) := ggX11_init_X3_init
theorem dX11_init_0 : decode cX11_init 0 = .ok (.aload_n 0, 1) := by decide +kernel
theorem dX11_init_1 : decode cX11_init 1 = .ok (.invokespecial 3, 3) := by decide +kernel
theorem dX11_init_4 : decode cX11_init 4 = .ok (.aload_n 0, 1) := by decide +kernel
theorem dX11_init_5 : decode cX11_init 5 = .ok (.new 9, 3) := by decide +kernel
theorem dX11_init_8 : decode cX11_init 8 = .ok (.dup, 1) := by decide +kernel
theorem dX11_init_9 : decode cX11_init 9 = .ok (.invokespecial 11, 3) := by decide +kernel
theorem dX11_init_12 : decode cX11_init 12 = .ok (.putfield 12, 3) := by decide +kernel
theorem dX11_init_15 : decode cX11_init 15 = .ok (.aload_n 0, 1) := by decide +kernel
theorem dX11_init_16 : decode cX11_init 16 = .ok (.lconst 0, 1) := by decide +kernel
theorem dX11_init_17 : decode cX11_init 17 = .ok (.putfield 18, 3) := by decide +kernel
theorem dX11_init_20 : decode cX11_init 20 = .ok (.aload_n 0, 1) := by decide +kernel
theorem dX11_init_21 : decode cX11_init 21 = .ok (.iconst 0, 1) := by decide +kernel
theorem dX11_init_22 : decode cX11_init 22 = .ok (.putfield 22, 3) := by decide +kernel
theorem dX11_init_25 : decode cX11_init 25 = .ok (.return_, 1) := by decide +kernel
set_option maxRecDepth 20000 in
theorem ggX11_pass_X3_takeNights : GoodIn wsX11_pass wsX3_takeNights := goodIn_r _ [9, 10, 11, 12, 13, 14, 15, 16, 17, 18, 19, 20, 21, 22, 23, 154, 155, 156, 157, 158, 159, 160, 161, 162, 163, 164, 165, 166] (by decide +kernel) (by decide +kernel)
set_option maxRecDepth 20000 in
theorem gX11_pass_X3_takeNights : GoodIn wsX11_pass (wsV RX11 26 RX3 yX3_takeNights wsX3_takeNights) := goodIn_app (goodIn_of _ (by decide +kernel)) ggX11_pass_X3_takeNights
set_option maxRecDepth 20000 in
theorem ggX11_pass_X11_draw : GoodIn wsX11_pass wsX11_draw := goodIn_r _ [28, 2, 29, 30, 31, 32, 138, 139, 140] (by decide +kernel) (by decide +kernel)
set_option maxRecDepth 20000 in
theorem gX11_pass_X11_draw : GoodIn wsX11_pass (wsV RX11 35 RX11 yX11_draw wsX11_draw) := goodIn_app (goodIn_of _ (by decide +kernel)) ggX11_pass_X11_draw
set_option maxRecDepth 20000 in
theorem ggX11_pass_X11_act : GoodIn wsX11_pass wsX11_act := goodIn_r _ [36, 1, 3, 37, 38, 39, 24, 25, 26, 27, 28, 2, 29, 30, 31, 32, 40, 41, 42, 8, 43, 21, 18, 44, 45, 46, 47, 48, 49, 50, 51, 52, 53, 54, 55, 19, 56, 57, 58, 59, 60, 61, 62, 63, 64, 65, 66, 67, 68, 69, 70, 71, 72, 73, 74, 17, 75, 76, 77, 78, 79, 80, 81, 82, 83, 84, 85, 10, 86, 87, 88, 89, 90, 91, 92, 93, 94, 95, 96, 97, 98, 99, 100, 101, 102, 103, 104, 105, 106, 107, 108, 22, 109, 110, 111, 112, 113, 114, 23, 115, 116, 117, 118, 119, 120, 121, 122, 123, 124, 125, 126, 127, 128, 129, 130, 131, 132, 133, 15, 16, 138, 139, 140, 141, 142, 143, 144, 145, 146, 147, 148, 149, 150, 151, 152, 153, 154, 155, 156, 157, 158, 159, 160, 161, 162, 163, 164, 165, 166, 167, 168] (by decide +kernel) (by decide +kernel)
set_option maxRecDepth 20000 in
theorem gX11_pass_X11_act : GoodIn wsX11_pass (wsV RX11 39 RX11 yX11_act wsX11_act) := goodIn_app (goodIn_of _ (by decide +kernel)) ggX11_pass_X11_act
set_option maxRecDepth 20000 in
theorem ggX11_pass_X3_passNight : GoodIn wsX11_pass wsX3_passNight := goodIn_r _ [137, 17, 22, 23, 20, 154, 155, 156, 157, 158, 159, 160, 161, 162, 163, 164, 165, 166] (by decide +kernel) (by decide +kernel)
set_option maxRecDepth 20000 in
theorem gX11_pass_X3_passNight : GoodIn wsX11_pass (wsV RX11 43 RX3 yX3_passNight wsX3_passNight) := goodIn_app (goodIn_of _ (by decide +kernel)) ggX11_pass_X3_passNight
theorem dX11_pass_0 : decode cX11_pass 0 = .ok (.aload_n 0, 1) := by decide +kernel
theorem dX11_pass_1 : decode cX11_pass 1 = .ok (.getfield 12, 3) := by decide +kernel
theorem dX11_pass_4 : decode cX11_pass 4 = .ok (.aload_n 1, 1) := by decide +kernel
theorem dX11_pass_5 : decode cX11_pass 5 = .ok (.invokevirtual 26, 3) := by decide +kernel
theorem dX11_pass_8 : decode cX11_pass 8 = .ok (.aload_n 0, 1) := by decide +kernel
theorem dX11_pass_9 : decode cX11_pass 9 = .ok (.iload_n 3, 1) := by decide +kernel
theorem dX11_pass_10 : decode cX11_pass 10 = .ok (.i2l, 1) := by decide +kernel
theorem dX11_pass_11 : decode cX11_pass 11 = .ok (.putfield 18, 3) := by decide +kernel
theorem dX11_pass_14 : decode cX11_pass 14 = .ok (.aload_n 0, 1) := by decide +kernel
theorem dX11_pass_15 : decode cX11_pass 15 = .ok (.iconst 0, 1) := by decide +kernel
theorem dX11_pass_16 : decode cX11_pass 16 = .ok (.putfield 22, 3) := by decide +kernel
theorem dX11_pass_19 : decode cX11_pass 19 = .ok (.iconst 0, 1) := by decide +kernel
theorem dX11_pass_20 : decode cX11_pass 20 = .ok (.istore 5, 2) := by decide +kernel
theorem dX11_pass_22 : decode cX11_pass 22 = .ok (.iload 5, 2) := by decide +kernel
theorem dX11_pass_24 : decode cX11_pass 24 = .ok (.iload 4, 2) := by decide +kernel
theorem dX11_pass_26 : decode cX11_pass 26 = .ok (.if_icmp .ge 36, 3) := by decide +kernel
theorem dX11_pass_29 : decode cX11_pass 29 = .ok (.aload_n 2, 1) := by decide +kernel
theorem dX11_pass_30 : decode cX11_pass 30 = .ok (.getfield 30, 3) := by decide +kernel
theorem dX11_pass_33 : decode cX11_pass 33 = .ok (.ifCond .le 16, 3) := by decide +kernel
theorem dX11_pass_36 : decode cX11_pass 36 = .ok (.aload_n 0, 1) := by decide +kernel
theorem dX11_pass_37 : decode cX11_pass 37 = .ok (.aload_n 2, 1) := by decide +kernel
theorem dX11_pass_38 : decode cX11_pass 38 = .ok (.aload_n 0, 1) := by decide +kernel
theorem dX11_pass_39 : decode cX11_pass 39 = .ok (.aload_n 2, 1) := by decide +kernel
theorem dX11_pass_40 : decode cX11_pass 40 = .ok (.getfield 30, 3) := by decide +kernel
theorem dX11_pass_43 : decode cX11_pass 43 = .ok (.invokevirtual 35, 3) := by decide +kernel
theorem dX11_pass_46 : decode cX11_pass 46 = .ok (.invokevirtual 39, 3) := by decide +kernel
theorem dX11_pass_49 : decode cX11_pass 49 = .ok (.aload_n 0, 1) := by decide +kernel
theorem dX11_pass_50 : decode cX11_pass 50 = .ok (.getfield 12, 3) := by decide +kernel
theorem dX11_pass_53 : decode cX11_pass 53 = .ok (.invokevirtual 43, 3) := by decide +kernel
theorem dX11_pass_56 : decode cX11_pass 56 = .ok (.iinc 5 1, 3) := by decide +kernel
theorem dX11_pass_59 : decode cX11_pass 59 = .ok (.goto (-37), 3) := by decide +kernel
theorem dX11_pass_62 : decode cX11_pass 62 = .ok (.return_, 1) := by decide +kernel
theorem dX11_draw_0 : decode cX11_draw 0 = .ok (.aload_n 0, 1) := by decide +kernel
theorem dX11_draw_1 : decode cX11_draw 1 = .ok (.aload_n 0, 1) := by decide +kernel
theorem dX11_draw_2 : decode cX11_draw 2 = .ok (.getfield 18, 3) := by decide +kernel
theorem dX11_draw_5 : decode cX11_draw 5 = .ok (.ldc2_w 46, 3) := by decide +kernel
theorem dX11_draw_8 : decode cX11_draw 8 = .ok (.lmul, 1) := by decide +kernel
theorem dX11_draw_9 : decode cX11_draw 9 = .ok (.ldc2_w 48, 3) := by decide +kernel
theorem dX11_draw_12 : decode cX11_draw 12 = .ok (.ladd, 1) := by decide +kernel
theorem dX11_draw_13 : decode cX11_draw 13 = .ok (.ldc2_w 50, 3) := by decide +kernel
theorem dX11_draw_16 : decode cX11_draw 16 = .ok (.lrem, 1) := by decide +kernel
theorem dX11_draw_17 : decode cX11_draw 17 = .ok (.putfield 18, 3) := by decide +kernel
theorem dX11_draw_20 : decode cX11_draw 20 = .ok (.iload_n 1, 1) := by decide +kernel
theorem dX11_draw_21 : decode cX11_draw 21 = .ok (.ifCond .le 18, 3) := by decide +kernel
theorem dX11_draw_24 : decode cX11_draw 24 = .ok (.aload_n 0, 1) := by decide +kernel
theorem dX11_draw_25 : decode cX11_draw 25 = .ok (.getfield 18, 3) := by decide +kernel
theorem dX11_draw_28 : decode cX11_draw 28 = .ok (.ldc2_w 52, 3) := by decide +kernel
theorem dX11_draw_31 : decode cX11_draw 31 = .ok (.ldiv, 1) := by decide +kernel
theorem dX11_draw_32 : decode cX11_draw 32 = .ok (.iload_n 1, 1) := by decide +kernel
theorem dX11_draw_33 : decode cX11_draw 33 = .ok (.i2l, 1) := by decide +kernel
theorem dX11_draw_34 : decode cX11_draw 34 = .ok (.lrem, 1) := by decide +kernel
theorem dX11_draw_35 : decode cX11_draw 35 = .ok (.l2i, 1) := by decide +kernel
theorem dX11_draw_36 : decode cX11_draw 36 = .ok (.goto 4, 3) := by decide +kernel
theorem dX11_draw_39 : decode cX11_draw 39 = .ok (.iconst 0, 1) := by decide +kernel
theorem dX11_draw_40 : decode cX11_draw 40 = .ok (.ireturn, 1) := by decide +kernel
set_option maxRecDepth 20000 in
theorem ggX11_act_X11_draw : GoodIn wsX11_act wsX11_draw := goodIn_r _ [10, 11, 12, 13, 14, 15, 120, 121, 122] (by decide +kernel) (by decide +kernel)
set_option maxRecDepth 20000 in
theorem gX11_act_X11_draw : GoodIn wsX11_act (wsV RX11 35 RX11 yX11_draw wsX11_draw) := goodIn_app (goodIn_of _ (by decide +kernel)) ggX11_act_X11_draw
set_option maxRecDepth 20000 in
theorem ggX11_act_X3_heldBy : GoodIn wsX11_act wsX3_heldBy := goodIn_r _ [20, 21, 22, 136, 137, 138, 139, 140, 141, 142, 143, 144, 145, 146, 147, 148] (by decide +kernel) (by decide +kernel)
set_option maxRecDepth 20000 in
theorem gX11_act_X3_heldBy : GoodIn wsX11_act (wsV RX11 54 RX3 yX3_heldBy wsX3_heldBy) := goodIn_app (goodIn_of _ (by decide +kernel)) ggX11_act_X3_heldBy
set_option maxRecDepth 20000 in
theorem ggX11_act_J6_numberOfTrailingZeros_0f7a4 : GoodIn wsX11_act wsJ6_numberOfTrailingZeros_0f7a4 := goodIn_r _ [26, 27] (by decide +kernel) (by decide +kernel)
set_option maxRecDepth 20000 in
theorem gX11_act_J6_numberOfTrailingZeros_0f7a4 : GoodIn wsX11_act (va_wsS RX11 57 yJ6_numberOfTrailingZeros_0f7a4 wsJ6_numberOfTrailingZeros_0f7a4) := goodIn_app (goodIn_of _ (by decide +kernel)) ggX11_act_J6_numberOfTrailingZeros_0f7a4
set_option maxRecDepth 20000 in
theorem ggX11_act_J6_numberOfLeadingZeros_0f7a4 : GoodIn wsX11_act wsJ6_numberOfLeadingZeros_0f7a4 := goodIn_r _ [30, 27] (by decide +kernel) (by decide +kernel)
set_option maxRecDepth 20000 in
theorem gX11_act_J6_numberOfLeadingZeros_0f7a4 : GoodIn wsX11_act (va_wsS RX11 62 yJ6_numberOfLeadingZeros_0f7a4 wsJ6_numberOfLeadingZeros_0f7a4) := goodIn_app (goodIn_of _ (by decide +kernel)) ggX11_act_J6_numberOfLeadingZeros_0f7a4
set_option maxRecDepth 20000 in
theorem ggX11_act_X3_sale : GoodIn wsX11_act wsX3_sale := goodIn_r _ [34, 35, 22, 36, 37, 38, 19, 39, 40, 41, 42, 43, 44, 45, 46, 47, 48, 49, 21, 50, 51, 52, 53, 54, 55, 56, 57, 58, 59, 60, 61, 62, 63, 64, 65, 66, 67, 68, 69, 25, 70, 71, 72, 73, 74, 75, 76, 77, 78, 79, 80, 81, 82, 83, 84, 85, 86, 136, 137, 138, 139, 140, 141, 142, 143, 144, 145, 146, 147, 148, 123, 124, 125, 126, 127, 128, 129, 130, 131, 132, 133, 134, 135, 149, 150] (by decide +kernel) (by decide +kernel)
set_option maxRecDepth 20000 in
theorem gX11_act_X3_sale : GoodIn wsX11_act (wsV RX11 65 RX3 yX3_sale wsX3_sale) := goodIn_app (goodIn_of _ (by decide +kernel)) ggX11_act_X3_sale
set_option maxRecDepth 20000 in
theorem ggX11_act_X3_swap : GoodIn wsX11_act wsX3_swap := goodIn_r _ [90, 91, 22, 92, 67, 36, 37, 38, 19, 39, 40, 41, 42, 43, 44, 45, 46, 47, 48, 49, 21, 93, 94, 95, 96, 97, 98, 136, 137, 138, 139, 140, 141, 142, 143, 144, 145, 146, 147, 148, 123, 124, 125, 126, 127, 128, 129, 130, 131, 132, 133, 134, 135] (by decide +kernel) (by decide +kernel)
set_option maxRecDepth 20000 in
theorem gX11_act_X3_swap : GoodIn wsX11_act (wsV RX11 69 RX3 yX3_swap wsX3_swap) := goodIn_app (goodIn_of _ (by decide +kernel)) ggX11_act_X3_swap
set_option maxRecDepth 20000 in
theorem ggX11_act_X3_copyOf : GoodIn wsX11_act wsX3_copyOf := goodIn_r _ [102, 21, 92, 22, 103, 40, 41, 42, 43, 44, 45, 46, 47, 48, 19, 49, 104, 105, 106, 107, 108, 109, 110, 111, 112, 113, 63, 64, 65, 66, 67, 68, 69, 25, 70, 71, 72, 73, 74, 75, 76, 77, 78, 79, 80, 81, 82, 83, 84, 85, 86, 114, 115, 116, 117, 118, 119, 55, 136, 137, 138, 139, 140, 141, 142, 143, 144, 145, 146, 147, 148, 123, 124, 125, 126, 127, 128, 129, 130, 131, 132, 133, 134, 135, 149, 150] (by decide +kernel) (by decide +kernel)
set_option maxRecDepth 20000 in
theorem gX11_act_X3_copyOf : GoodIn wsX11_act (wsV RX11 82 RX3 yX3_copyOf wsX3_copyOf) := goodIn_app (goodIn_of _ (by decide +kernel)) ggX11_act_X3_copyOf
theorem dX11_act_0 : decode cX11_act 0 = .ok (.aload_n 0, 1) := by decide +kernel
theorem dX11_act_1 : decode cX11_act 1 = .ok (.iconst 4, 1) := by decide +kernel
theorem dX11_act_2 : decode cX11_act 2 = .ok (.invokevirtual 35, 3) := by decide +kernel
theorem dX11_act_5 : decode cX11_act 5 = .ok (.istore_n 3, 1) := by decide +kernel
theorem dX11_act_6 : decode cX11_act 6 = .ok (.aload_n 0, 1) := by decide +kernel
theorem dX11_act_7 : decode cX11_act 7 = .ok (.getfield 12, 3) := by decide +kernel
theorem dX11_act_10 : decode cX11_act 10 = .ok (.iload_n 2, 1) := by decide +kernel
theorem dX11_act_11 : decode cX11_act 11 = .ok (.invokevirtual 54, 3) := by decide +kernel
theorem dX11_act_14 : decode cX11_act 14 = .ok (.istore 4, 2) := by decide +kernel
theorem dX11_act_16 : decode cX11_act 16 = .ok (.iload 4, 2) := by decide +kernel
theorem dX11_act_18 : decode cX11_act 18 = .ok (.invokestatic 57, 3) := by decide +kernel
theorem dX11_act_21 : decode cX11_act 21 = .ok (.istore 5, 2) := by decide +kernel
theorem dX11_act_23 : decode cX11_act 23 = .ok (.bipush 31, 2) := by decide +kernel
theorem dX11_act_25 : decode cX11_act 25 = .ok (.iload 4, 2) := by decide +kernel
theorem dX11_act_27 : decode cX11_act 27 = .ok (.invokestatic 62, 3) := by decide +kernel
theorem dX11_act_30 : decode cX11_act 30 = .ok (.isub, 1) := by decide +kernel
theorem dX11_act_31 : decode cX11_act 31 = .ok (.istore 6, 2) := by decide +kernel
theorem dX11_act_33 : decode cX11_act 33 = .ok (.iload_n 3, 1) := by decide +kernel
theorem dX11_act_34 : decode cX11_act 34 = .ok (.iconst 1, 1) := by decide +kernel
theorem dX11_act_35 : decode cX11_act 35 = .ok (.if_icmp .ne 18, 3) := by decide +kernel
theorem dX11_act_38 : decode cX11_act 38 = .ok (.aload_n 0, 1) := by decide +kernel
theorem dX11_act_39 : decode cX11_act 39 = .ok (.getfield 12, 3) := by decide +kernel
theorem dX11_act_42 : decode cX11_act 42 = .ok (.aload_n 1, 1) := by decide +kernel
theorem dX11_act_43 : decode cX11_act 43 = .ok (.iload_n 2, 1) := by decide +kernel
theorem dX11_act_44 : decode cX11_act 44 = .ok (.iload 6, 2) := by decide +kernel
theorem dX11_act_46 : decode cX11_act 46 = .ok (.invokevirtual 65, 3) := by decide +kernel
theorem dX11_act_49 : decode cX11_act 49 = .ok (.pop, 1) := by decide +kernel
theorem dX11_act_50 : decode cX11_act 50 = .ok (.goto 90, 3) := by decide +kernel
theorem dX11_act_53 : decode cX11_act 53 = .ok (.iload_n 3, 1) := by decide +kernel
theorem dX11_act_54 : decode cX11_act 54 = .ok (.ifCond .eq 35, 3) := by decide +kernel
theorem dX11_act_57 : decode cX11_act 57 = .ok (.aload_n 0, 1) := by decide +kernel
theorem dX11_act_58 : decode cX11_act 58 = .ok (.dup, 1) := by decide +kernel
theorem dX11_act_59 : decode cX11_act 59 = .ok (.getfield 22, 3) := by decide +kernel
theorem dX11_act_62 : decode cX11_act 62 = .ok (.aload_n 0, 1) := by decide +kernel
theorem dX11_act_63 : decode cX11_act 63 = .ok (.getfield 12, 3) := by decide +kernel
theorem dX11_act_66 : decode cX11_act 66 = .ok (.aload_n 1, 1) := by decide +kernel
theorem dX11_act_67 : decode cX11_act 67 = .ok (.iload_n 2, 1) := by decide +kernel
theorem dX11_act_68 : decode cX11_act 68 = .ok (.iload 5, 2) := by decide +kernel
theorem dX11_act_70 : decode cX11_act 70 = .ok (.invokevirtual 69, 3) := by decide +kernel
theorem dX11_act_73 : decode cX11_act 73 = .ok (.iconst (-1), 1) := by decide +kernel
theorem dX11_act_74 : decode cX11_act 74 = .ok (.if_icmp .eq 7, 3) := by decide +kernel
theorem dX11_act_77 : decode cX11_act 77 = .ok (.iconst 1, 1) := by decide +kernel
theorem dX11_act_78 : decode cX11_act 78 = .ok (.goto 4, 3) := by decide +kernel
theorem dX11_act_81 : decode cX11_act 81 = .ok (.iconst 0, 1) := by decide +kernel
theorem dX11_act_82 : decode cX11_act 82 = .ok (.iadd, 1) := by decide +kernel
theorem dX11_act_83 : decode cX11_act 83 = .ok (.putfield 22, 3) := by decide +kernel
theorem dX11_act_86 : decode cX11_act 86 = .ok (.goto 54, 3) := by decide +kernel
theorem dX11_act_89 : decode cX11_act 89 = .ok (.aload_n 1, 1) := by decide +kernel
theorem dX11_act_90 : decode cX11_act 90 = .ok (.getfield 72, 3) := by decide +kernel
theorem dX11_act_93 : decode cX11_act 93 = .ok (.ifCond .le 47, 3) := by decide +kernel
theorem dX11_act_96 : decode cX11_act 96 = .ok (.aload_n 1, 1) := by decide +kernel
theorem dX11_act_97 : decode cX11_act 97 = .ok (.getfield 75, 3) := by decide +kernel
theorem dX11_act_100 : decode cX11_act 100 = .ok (.iload_n 2, 1) := by decide +kernel
theorem dX11_act_101 : decode cX11_act 101 = .ok (.iaload, 1) := by decide +kernel
theorem dX11_act_102 : decode cX11_act 102 = .ok (.iconst 3, 1) := by decide +kernel
theorem dX11_act_103 : decode cX11_act 103 = .ok (.if_icmp .ne 13, 3) := by decide +kernel
theorem dX11_act_106 : decode cX11_act 106 = .ok (.aload_n 0, 1) := by decide +kernel
theorem dX11_act_107 : decode cX11_act 107 = .ok (.getfield 12, 3) := by decide +kernel
theorem dX11_act_110 : decode cX11_act 110 = .ok (.getfield 79, 3) := by decide +kernel
theorem dX11_act_113 : decode cX11_act 113 = .ok (.goto 5, 3) := by decide +kernel
theorem dX11_act_116 : decode cX11_act 116 = .ok (.iload 5, 2) := by decide +kernel
theorem dX11_act_118 : decode cX11_act 118 = .ok (.istore 7, 2) := by decide +kernel
theorem dX11_act_120 : decode cX11_act 120 = .ok (.aload_n 0, 1) := by decide +kernel
theorem dX11_act_121 : decode cX11_act 121 = .ok (.getfield 12, 3) := by decide +kernel
theorem dX11_act_124 : decode cX11_act 124 = .ok (.aload_n 1, 1) := by decide +kernel
theorem dX11_act_125 : decode cX11_act 125 = .ok (.iload_n 2, 1) := by decide +kernel
theorem dX11_act_126 : decode cX11_act 126 = .ok (.iload 7, 2) := by decide +kernel
theorem dX11_act_128 : decode cX11_act 128 = .ok (.aload_n 0, 1) := by decide +kernel
theorem dX11_act_129 : decode cX11_act 129 = .ok (.aload_n 1, 1) := by decide +kernel
theorem dX11_act_130 : decode cX11_act 130 = .ok (.getfield 72, 3) := by decide +kernel
theorem dX11_act_133 : decode cX11_act 133 = .ok (.invokevirtual 35, 3) := by decide +kernel
theorem dX11_act_136 : decode cX11_act 136 = .ok (.invokevirtual 82, 3) := by decide +kernel
theorem dX11_act_139 : decode cX11_act 139 = .ok (.pop, 1) := by decide +kernel
theorem dX11_act_140 : decode cX11_act 140 = .ok (.return_, 1) := by decide +kernel
set_option maxRecDepth 20000 in
theorem ggX12_init_X8_init : GoodIn wsX12_init wsX8_init := goodIn_r _ [49, 50, 2, 3, 51, 52, 31, 53, 54, 55, 56, 57, 58, 59, 60, 153, 154, 155, 156, 157, 158, 159, 160] (by decide +kernel) (by decide +kernel)
set_option maxRecDepth 20000 in
theorem gX12_init_X8_init_n11 : GoodIn wsX12_init (wsX8_init) := ggX12_init_X8_init
set_option maxRecDepth 20000 in
theorem ggX12_init_X2_init : GoodIn wsX12_init wsX2_init := goodIn_r _ [63, 64, 2, 3, 65, 66, 67, 68, 69, 70, 71, 72, 73, 31, 74, 75, 76, 77, 78, 180, 181, 225, 226, 227, 228] (by decide +kernel) (by decide +kernel)
set_option maxRecDepth 20000 in
theorem gX12_init_X2_init : GoodIn wsX12_init (wsX2_init) := ggX12_init_X2_init
set_option maxRecDepth 20000 in
theorem ggX12_init_X3_init : GoodIn wsX12_init wsX3_init := goodIn_r _ [81, 82, 2, 3, 31, 83, 84, 85, 86, 87, 88, 89, 90, 91, 92, 93, 94, 95, 96, 97, 98, 14, 99, 100, 101, 102, 103, 182, 183, 184, 185, 186, 187, 188, 189, 190, 191, 192, 193, 194] (by decide +kernel) (by decide +kernel)
set_option maxRecDepth 20000 in
theorem gX12_init_X3_init : GoodIn wsX12_init (wsX3_init) := ggX12_init_X3_init
set_option maxRecDepth 20000 in
theorem ggX12_init_X9_init : GoodIn wsX12_init wsX9_init := goodIn_r _ [105, 106, 2, 3, 31, 107, 108, 109, 110, 111, 112, 195, 196, 197, 198, 199, 200] (by decide +kernel) (by decide +kernel)
set_option maxRecDepth 20000 in
theorem gX12_init_X9_init_n44 : GoodIn wsX12_init (wsX9_init) := ggX12_init_X9_init
set_option maxRecDepth 20000 in
theorem ggX12_init_X7_init : GoodIn wsX12_init wsX7_init := goodIn_r _ [114, 115, 2, 3, 31, 116, 117, 118, 201, 202, 203] (by decide +kernel) (by decide +kernel)
set_option maxRecDepth 20000 in
theorem gX12_init_X7_init_n51 : GoodIn wsX12_init (wsX7_init) := ggX12_init_X7_init
set_option maxRecDepth 20000 in
theorem ggX12_init_X11_init : GoodIn wsX12_init wsX11_init := goodIn_r _ [120, 121, 2, 3, 122, 13, 14, 123, 124, 125, 126, 80, 81, 82, 31, 83, 84, 85, 86, 87, 88, 89, 90, 91, 92, 93, 94, 95, 96, 97, 98, 99, 100, 101, 102, 103, 182, 183, 184, 185, 186, 187, 188, 189, 190, 191, 192, 193, 194, 204, 205, 206] (by decide +kernel) (by decide +kernel)
set_option maxRecDepth 20000 in
theorem gX12_init_X11_init_n58 : GoodIn wsX12_init (wsX11_init) := ggX12_init_X11_init
set_option maxRecDepth 20000 in
theorem ggX12_init_X1_init : GoodIn wsX12_init wsX1_init := goodIn_r _ [128, 129, 2, 3, 55, 130, 131, 132, 31, 133, 134, 135, 136, 137, 13, 14, 138, 139, 140, 141, 142, 143, 144, 80, 81, 82, 83, 84, 85, 86, 87, 88, 89, 90, 91, 92, 93, 94, 95, 96, 97, 98, 99, 100, 101, 102, 103, 207, 208, 209, 210, 211, 212, 213, 214, 215, 216, 217, 218, 219, 182, 183, 184, 185, 186, 187, 188, 189, 190, 191, 192, 193, 194] (by decide +kernel) (by decide +kernel)
set_option maxRecDepth 20000 in
theorem gX12_init_X1_init_n75 : GoodIn wsX12_init (wsX1_init) := ggX12_init_X1_init
set_option maxRecDepth 20000 in
theorem ggX12_init_X6_init : GoodIn wsX12_init wsX6_init := goodIn_r _ [146, 147, 2, 3, 31, 148, 149, 150, 151, 152, 220, 221, 222, 223, 224] (by decide +kernel) (by decide +kernel)
set_option maxRecDepth 20000 in
theorem gX12_init_X6_init_n85 : GoodIn wsX12_init (wsX6_init) := ggX12_init_X6_init
theorem dX12_init_0 : decode cX12_init 0 = .ok (.aload_n 0, 1) := by decide +kernel
theorem dX12_init_1 : decode cX12_init 1 = .ok (.invokespecial 3, 3) := by decide +kernel
theorem dX12_init_4 : decode cX12_init 4 = .ok (.aload_n 0, 1) := by decide +kernel
theorem dX12_init_5 : decode cX12_init 5 = .ok (.new 9, 3) := by decide +kernel
theorem dX12_init_8 : decode cX12_init 8 = .ok (.dup, 1) := by decide +kernel
theorem dX12_init_9 : decode cX12_init 9 = .ok (.invokespecial 11, 3) := by decide +kernel
theorem dX12_init_12 : decode cX12_init 12 = .ok (.putfield 12, 3) := by decide +kernel
theorem dX12_init_15 : decode cX12_init 15 = .ok (.aload_n 0, 1) := by decide +kernel
theorem dX12_init_16 : decode cX12_init 16 = .ok (.new 16, 3) := by decide +kernel
theorem dX12_init_19 : decode cX12_init 19 = .ok (.dup, 1) := by decide +kernel
theorem dX12_init_20 : decode cX12_init 20 = .ok (.aload_n 0, 1) := by decide +kernel
theorem dX12_init_21 : decode cX12_init 21 = .ok (.getfield 12, 3) := by decide +kernel
theorem dX12_init_24 : decode cX12_init 24 = .ok (.invokespecial 18, 3) := by decide +kernel
theorem dX12_init_27 : decode cX12_init 27 = .ok (.putfield 21, 3) := by decide +kernel
theorem dX12_init_30 : decode cX12_init 30 = .ok (.aload_n 0, 1) := by decide +kernel
theorem dX12_init_31 : decode cX12_init 31 = .ok (.new 25, 3) := by decide +kernel
theorem dX12_init_34 : decode cX12_init 34 = .ok (.dup, 1) := by decide +kernel
theorem dX12_init_35 : decode cX12_init 35 = .ok (.invokespecial 27, 3) := by decide +kernel
theorem dX12_init_38 : decode cX12_init 38 = .ok (.putfield 28, 3) := by decide +kernel
theorem dX12_init_41 : decode cX12_init 41 = .ok (.aload_n 0, 1) := by decide +kernel
theorem dX12_init_42 : decode cX12_init 42 = .ok (.new 25, 3) := by decide +kernel
theorem dX12_init_45 : decode cX12_init 45 = .ok (.dup, 1) := by decide +kernel
theorem dX12_init_46 : decode cX12_init 46 = .ok (.invokespecial 27, 3) := by decide +kernel
theorem dX12_init_49 : decode cX12_init 49 = .ok (.putfield 32, 3) := by decide +kernel
theorem dX12_init_52 : decode cX12_init 52 = .ok (.aload_n 0, 1) := by decide +kernel
theorem dX12_init_53 : decode cX12_init 53 = .ok (.bipush 17, 2) := by decide +kernel
theorem dX12_init_55 : decode cX12_init 55 = .ok (.anewarray 25, 3) := by decide +kernel
theorem dX12_init_58 : decode cX12_init 58 = .ok (.putfield 35, 3) := by decide +kernel
theorem dX12_init_61 : decode cX12_init 61 = .ok (.aload_n 0, 1) := by decide +kernel
theorem dX12_init_62 : decode cX12_init 62 = .ok (.iconst 4, 1) := by decide +kernel
theorem dX12_init_63 : decode cX12_init 63 = .ok (.anewarray 25, 3) := by decide +kernel
theorem dX12_init_66 : decode cX12_init 66 = .ok (.putfield 39, 3) := by decide +kernel
theorem dX12_init_69 : decode cX12_init 69 = .ok (.aload_n 0, 1) := by decide +kernel
theorem dX12_init_70 : decode cX12_init 70 = .ok (.new 42, 3) := by decide +kernel
theorem dX12_init_73 : decode cX12_init 73 = .ok (.dup, 1) := by decide +kernel
theorem dX12_init_74 : decode cX12_init 74 = .ok (.invokespecial 44, 3) := by decide +kernel
theorem dX12_init_77 : decode cX12_init 77 = .ok (.putfield 45, 3) := by decide +kernel
theorem dX12_init_80 : decode cX12_init 80 = .ok (.aload_n 0, 1) := by decide +kernel
theorem dX12_init_81 : decode cX12_init 81 = .ok (.new 49, 3) := by decide +kernel
theorem dX12_init_84 : decode cX12_init 84 = .ok (.dup, 1) := by decide +kernel
theorem dX12_init_85 : decode cX12_init 85 = .ok (.invokespecial 51, 3) := by decide +kernel
theorem dX12_init_88 : decode cX12_init 88 = .ok (.putfield 52, 3) := by decide +kernel
theorem dX12_init_91 : decode cX12_init 91 = .ok (.aload_n 0, 1) := by decide +kernel
theorem dX12_init_92 : decode cX12_init 92 = .ok (.new 56, 3) := by decide +kernel
theorem dX12_init_95 : decode cX12_init 95 = .ok (.dup, 1) := by decide +kernel
theorem dX12_init_96 : decode cX12_init 96 = .ok (.invokespecial 58, 3) := by decide +kernel
theorem dX12_init_99 : decode cX12_init 99 = .ok (.putfield 59, 3) := by decide +kernel
theorem dX12_init_102 : decode cX12_init 102 = .ok (.aload_n 0, 1) := by decide +kernel
theorem dX12_init_103 : decode cX12_init 103 = .ok (.bipush 32, 2) := by decide +kernel
theorem dX12_init_105 : decode cX12_init 105 = .ok (.newarray .int, 2) := by decide +kernel
theorem dX12_init_107 : decode cX12_init 107 = .ok (.putfield 63, 3) := by decide +kernel
theorem dX12_init_110 : decode cX12_init 110 = .ok (.aload_n 0, 1) := by decide +kernel
theorem dX12_init_111 : decode cX12_init 111 = .ok (.bipush 9, 2) := by decide +kernel
theorem dX12_init_113 : decode cX12_init 113 = .ok (.newarray .int, 2) := by decide +kernel
theorem dX12_init_115 : decode cX12_init 115 = .ok (.putfield 67, 3) := by decide +kernel
theorem dX12_init_118 : decode cX12_init 118 = .ok (.aload_n 0, 1) := by decide +kernel
theorem dX12_init_119 : decode cX12_init 119 = .ok (.bipush 9, 2) := by decide +kernel
theorem dX12_init_121 : decode cX12_init 121 = .ok (.newarray .int, 2) := by decide +kernel
theorem dX12_init_123 : decode cX12_init 123 = .ok (.putfield 70, 3) := by decide +kernel
theorem dX12_init_126 : decode cX12_init 126 = .ok (.aload_n 0, 1) := by decide +kernel
theorem dX12_init_127 : decode cX12_init 127 = .ok (.new 73, 3) := by decide +kernel
theorem dX12_init_130 : decode cX12_init 130 = .ok (.dup, 1) := by decide +kernel
theorem dX12_init_131 : decode cX12_init 131 = .ok (.invokespecial 75, 3) := by decide +kernel
theorem dX12_init_134 : decode cX12_init 134 = .ok (.putfield 76, 3) := by decide +kernel
theorem dX12_init_137 : decode cX12_init 137 = .ok (.aload_n 0, 1) := by decide +kernel
theorem dX12_init_138 : decode cX12_init 138 = .ok (.new 73, 3) := by decide +kernel
theorem dX12_init_141 : decode cX12_init 141 = .ok (.dup, 1) := by decide +kernel
theorem dX12_init_142 : decode cX12_init 142 = .ok (.invokespecial 75, 3) := by decide +kernel
theorem dX12_init_145 : decode cX12_init 145 = .ok (.putfield 80, 3) := by decide +kernel
theorem dX12_init_148 : decode cX12_init 148 = .ok (.aload_n 0, 1) := by decide +kernel
theorem dX12_init_149 : decode cX12_init 149 = .ok (.new 83, 3) := by decide +kernel
theorem dX12_init_152 : decode cX12_init 152 = .ok (.dup, 1) := by decide +kernel
theorem dX12_init_153 : decode cX12_init 153 = .ok (.invokespecial 85, 3) := by decide +kernel
theorem dX12_init_156 : decode cX12_init 156 = .ok (.putfield 86, 3) := by decide +kernel
theorem dX12_init_159 : decode cX12_init 159 = .ok (.aload_n 0, 1) := by decide +kernel
theorem dX12_init_160 : decode cX12_init 160 = .ok (.new 83, 3) := by decide +kernel
theorem dX12_init_163 : decode cX12_init 163 = .ok (.dup, 1) := by decide +kernel
theorem dX12_init_164 : decode cX12_init 164 = .ok (.invokespecial 85, 3) := by decide +kernel
theorem dX12_init_167 : decode cX12_init 167 = .ok (.putfield 90, 3) := by decide +kernel
theorem dX12_init_170 : decode cX12_init 170 = .ok (.aload_n 0, 1) := by decide +kernel
theorem dX12_init_171 : decode cX12_init 171 = .ok (.iconst 0, 1) := by decide +kernel
theorem dX12_init_172 : decode cX12_init 172 = .ok (.putfield 93, 3) := by decide +kernel
theorem dX12_init_175 : decode cX12_init 175 = .ok (.aload_n 0, 1) := by decide +kernel
theorem dX12_init_176 : decode cX12_init 176 = .ok (.iconst 0, 1) := by decide +kernel
theorem dX12_init_177 : decode cX12_init 177 = .ok (.putfield 97, 3) := by decide +kernel
theorem dX12_init_180 : decode cX12_init 180 = .ok (.aload_n 0, 1) := by decide +kernel
theorem dX12_init_181 : decode cX12_init 181 = .ok (.iconst 0, 1) := by decide +kernel
theorem dX12_init_182 : decode cX12_init 182 = .ok (.putfield 100, 3) := by decide +kernel
theorem dX12_init_185 : decode cX12_init 185 = .ok (.iconst 0, 1) := by decide +kernel
theorem dX12_init_186 : decode cX12_init 186 = .ok (.istore_n 1, 1) := by decide +kernel
theorem dX12_init_187 : decode cX12_init 187 = .ok (.iload_n 1, 1) := by decide +kernel
theorem dX12_init_188 : decode cX12_init 188 = .ok (.bipush 17, 2) := by decide +kernel
theorem dX12_init_190 : decode cX12_init 190 = .ok (.if_icmp .ge 22, 3) := by decide +kernel
theorem dX12_init_193 : decode cX12_init 193 = .ok (.aload_n 0, 1) := by decide +kernel
theorem dX12_init_194 : decode cX12_init 194 = .ok (.getfield 35, 3) := by decide +kernel
theorem dX12_init_197 : decode cX12_init 197 = .ok (.iload_n 1, 1) := by decide +kernel
theorem dX12_init_198 : decode cX12_init 198 = .ok (.new 25, 3) := by decide +kernel
theorem dX12_init_201 : decode cX12_init 201 = .ok (.dup, 1) := by decide +kernel
theorem dX12_init_202 : decode cX12_init 202 = .ok (.invokespecial 27, 3) := by decide +kernel
theorem dX12_init_205 : decode cX12_init 205 = .ok (.aastore, 1) := by decide +kernel
theorem dX12_init_206 : decode cX12_init 206 = .ok (.iinc 1 1, 3) := by decide +kernel
theorem dX12_init_209 : decode cX12_init 209 = .ok (.goto (-22), 3) := by decide +kernel
theorem dX12_init_212 : decode cX12_init 212 = .ok (.iconst 0, 1) := by decide +kernel
theorem dX12_init_213 : decode cX12_init 213 = .ok (.istore_n 1, 1) := by decide +kernel
theorem dX12_init_214 : decode cX12_init 214 = .ok (.iload_n 1, 1) := by decide +kernel
theorem dX12_init_215 : decode cX12_init 215 = .ok (.iconst 4, 1) := by decide +kernel
theorem dX12_init_216 : decode cX12_init 216 = .ok (.if_icmp .ge 22, 3) := by decide +kernel
theorem dX12_init_219 : decode cX12_init 219 = .ok (.aload_n 0, 1) := by decide +kernel
theorem dX12_init_220 : decode cX12_init 220 = .ok (.getfield 39, 3) := by decide +kernel
theorem dX12_init_223 : decode cX12_init 223 = .ok (.iload_n 1, 1) := by decide +kernel
theorem dX12_init_224 : decode cX12_init 224 = .ok (.new 25, 3) := by decide +kernel
theorem dX12_init_227 : decode cX12_init 227 = .ok (.dup, 1) := by decide +kernel
theorem dX12_init_228 : decode cX12_init 228 = .ok (.invokespecial 27, 3) := by decide +kernel
theorem dX12_init_231 : decode cX12_init 231 = .ok (.aastore, 1) := by decide +kernel
theorem dX12_init_232 : decode cX12_init 232 = .ok (.iinc 1 1, 3) := by decide +kernel
theorem dX12_init_235 : decode cX12_init 235 = .ok (.goto (-21), 3) := by decide +kernel
theorem dX12_init_238 : decode cX12_init 238 = .ok (.return_, 1) := by decide +kernel
set_option maxRecDepth 20000 in
theorem ggX12_feed_X8_append : GoodIn wsX12_feed wsX8_append := goodIn_r _ [7, 8, 9, 10, 30, 31, 32, 33, 34, 35, 36, 37] (by decide +kernel) (by decide +kernel)
set_option maxRecDepth 20000 in
theorem gX12_feed_X8_append : GoodIn wsX12_feed (wsV RX12 103 RX8 yX8_append wsX8_append) := goodIn_app (goodIn_of _ (by decide +kernel)) ggX12_feed_X8_append
theorem dX12_feed_0 : decode cX12_feed 0 = .ok (.aload_n 0, 1) := by decide +kernel
theorem dX12_feed_1 : decode cX12_feed 1 = .ok (.getfield 12, 3) := by decide +kernel
theorem dX12_feed_4 : decode cX12_feed 4 = .ok (.lload_n 1, 1) := by decide +kernel
theorem dX12_feed_5 : decode cX12_feed 5 = .ok (.invokevirtual 103, 3) := by decide +kernel
theorem dX12_feed_8 : decode cX12_feed 8 = .ok (.aload_n 0, 1) := by decide +kernel
theorem dX12_feed_9 : decode cX12_feed 9 = .ok (.getfield 12, 3) := by decide +kernel
theorem dX12_feed_12 : decode cX12_feed 12 = .ok (.lload_n 3, 1) := by decide +kernel
theorem dX12_feed_13 : decode cX12_feed 13 = .ok (.invokevirtual 103, 3) := by decide +kernel
theorem dX12_feed_16 : decode cX12_feed 16 = .ok (.aload_n 0, 1) := by decide +kernel
theorem dX12_feed_17 : decode cX12_feed 17 = .ok (.getfield 12, 3) := by decide +kernel
theorem dX12_feed_20 : decode cX12_feed 20 = .ok (.lload 5, 2) := by decide +kernel
theorem dX12_feed_22 : decode cX12_feed 22 = .ok (.invokevirtual 103, 3) := by decide +kernel
theorem dX12_feed_25 : decode cX12_feed 25 = .ok (.aload_n 0, 1) := by decide +kernel
theorem dX12_feed_26 : decode cX12_feed 26 = .ok (.getfield 12, 3) := by decide +kernel
theorem dX12_feed_29 : decode cX12_feed 29 = .ok (.getfield 107, 3) := by decide +kernel
theorem dX12_feed_32 : decode cX12_feed 32 = .ok (.ireturn, 1) := by decide +kernel
set_option maxRecDepth 20000 in
theorem ggX12_gallery_X2_read : GoodIn wsX12_gallery wsX2_read := goodIn_r _ [8, 9, 10, 11, 12, 13, 14, 15, 16, 17, 18, 19, 20, 21, 22, 23, 24, 25, 26, 27, 28, 29, 30, 31, 32, 33, 34, 35, 36, 37, 38, 39, 40, 41, 42, 43, 44, 45, 46, 47, 48, 49, 50, 51, 52, 53, 54, 55, 56, 57, 58, 59, 60, 61, 62, 63, 64, 65, 66, 67, 68, 69, 70, 71, 72, 73, 74, 75, 76, 77, 78, 79, 80, 81, 82, 83, 84, 85, 86, 87, 88, 89, 90, 91, 92, 93, 94, 95, 96, 97, 98, 99, 100, 101, 102, 103, 104, 105, 106, 107, 108, 109, 110, 111, 112, 113, 114, 115, 116, 117, 118, 119, 120, 121, 122, 123, 124, 125, 126, 127, 128, 129, 130, 131, 132, 133, 134, 135, 136, 137, 138, 139, 140, 141, 142, 143, 144, 145, 146, 147, 148, 149, 150, 151, 152, 153, 154, 155, 156, 157, 158, 159, 160, 161, 162, 163, 164, 165, 166, 167, 168, 169, 170, 171, 172, 173, 174, 175, 176, 177, 178, 179, 180, 181, 182, 183, 184, 185, 186, 187, 188, 189, 190, 191, 192, 193, 194, 195, 196, 197, 198, 199, 200, 201, 202, 7, 203, 204, 205, 206, 207, 208, 209, 210, 211, 212, 213, 214, 215, 216, 217, 218, 219, 220, 221, 222, 223, 224, 225, 226, 227, 228, 229, 230, 231, 232, 233, 234, 235, 236, 237, 238, 239, 240, 241, 242, 243, 244, 245, 246, 247, 248, 249, 250, 251, 252, 253, 254, 255, 256, 257, 258, 259, 260, 261, 262, 263, 264, 265, 266, 267, 268, 269, 270, 271, 272, 273, 274, 275, 276, 277, 278, 279, 280, 281, 282, 283, 284, 285, 286, 287, 288, 289, 290, 291, 292, 293, 294, 295, 296, 297, 298, 299, 300, 301, 302, 303, 304, 305, 306, 307, 308, 309, 310, 311, 312, 313, 314, 315, 316, 317, 318, 319, 320, 321, 322, 323, 324, 325, 326, 327, 328, 329, 330, 331, 332, 333, 334, 335, 336, 337, 338, 339, 340, 341, 342, 343, 344, 345, 346, 347, 348, 349, 350, 351, 352, 353, 354, 355, 356, 357, 358, 359, 360, 361, 362, 363, 364, 365, 366, 367, 368, 369, 370, 371, 372, 373, 374, 375, 376, 377, 378, 379, 380, 381, 382, 383, 384, 385, 386, 387, 388, 389, 390, 391, 392, 393, 394, 395, 396, 397, 398, 399, 400, 401, 402, 403, 404, 405, 406, 407, 408, 409, 410, 411, 412, 413, 414, 415, 416, 417, 418, 419, 420, 421, 422, 423, 424, 425, 426, 427, 428, 429, 430, 431, 432, 433, 434, 435, 436, 437, 438, 439, 440, 441, 442, 443, 444, 445, 446, 447, 448, 449, 450, 451, 452, 453, 454, 455, 456, 457, 458, 459, 460, 461, 462, 463, 464, 465, 505, 506, 507, 508, 509, 510, 511, 512, 513, 514, 515, 516, 517, 518, 519, 520, 521, 522, 523, 524, 525, 526, 527, 528, 529, 530, 531, 532, 533, 534, 535, 536, 537, 538, 539, 540, 541, 542, 543, 544, 545, 546] (by decide +kernel) (by decide +kernel)
set_option maxRecDepth 20000 in
theorem gX12_gallery_X2_read : GoodIn wsX12_gallery (wsV RX12 110 RX2 yX2_read wsX2_read) := goodIn_app (goodIn_of _ (by decide +kernel)) ggX12_gallery_X2_read
set_option maxRecDepth 20000 in
theorem ggX12_gallery_X12_startAnew : GoodIn wsX12_gallery wsX12_startAnew := goodIn_r _ [470, 471, 3, 472, 473, 474, 475, 476, 477, 478, 479, 25, 480, 37, 38, 39, 481, 482, 483, 484, 27, 485, 445, 446, 447, 28, 30, 29, 31, 32, 33, 34, 35, 36, 486, 487, 488, 489, 490, 491, 492, 493, 494, 495, 496, 497, 498, 499, 500, 501, 502, 503, 504, 507, 508, 509, 510, 511, 512, 513, 514, 515, 516, 517, 518, 519, 547, 548, 549, 550, 551, 520, 521, 522, 523, 524, 525, 526, 527, 528, 529, 530, 531, 532] (by decide +kernel) (by decide +kernel)
set_option maxRecDepth 20000 in
theorem gX12_gallery_X12_startAnew : GoodIn wsX12_gallery (wsV RX12 114 RX12 yX12_startAnew wsX12_startAnew) := goodIn_app (goodIn_of _ (by decide +kernel)) ggX12_gallery_X12_startAnew
theorem dX12_gallery_0 : decode cX12_gallery 0 = .ok (.aload_n 0, 1) := by decide +kernel
theorem dX12_gallery_1 : decode cX12_gallery 1 = .ok (.getfield 21, 3) := by decide +kernel
theorem dX12_gallery_4 : decode cX12_gallery 4 = .ok (.aload_n 0, 1) := by decide +kernel
theorem dX12_gallery_5 : decode cX12_gallery 5 = .ok (.getfield 80, 3) := by decide +kernel
theorem dX12_gallery_8 : decode cX12_gallery 8 = .ok (.invokevirtual 110, 3) := by decide +kernel
theorem dX12_gallery_11 : decode cX12_gallery 11 = .ok (.istore_n 1, 1) := by decide +kernel
theorem dX12_gallery_12 : decode cX12_gallery 12 = .ok (.iload_n 1, 1) := by decide +kernel
theorem dX12_gallery_13 : decode cX12_gallery 13 = .ok (.ifCond .ne 25, 3) := by decide +kernel
theorem dX12_gallery_16 : decode cX12_gallery 16 = .ok (.aload_n 0, 1) := by decide +kernel
theorem dX12_gallery_17 : decode cX12_gallery 17 = .ok (.getfield 76, 3) := by decide +kernel
theorem dX12_gallery_20 : decode cX12_gallery 20 = .ok (.astore_n 2, 1) := by decide +kernel
theorem dX12_gallery_21 : decode cX12_gallery 21 = .ok (.aload_n 0, 1) := by decide +kernel
theorem dX12_gallery_22 : decode cX12_gallery 22 = .ok (.aload_n 0, 1) := by decide +kernel
theorem dX12_gallery_23 : decode cX12_gallery 23 = .ok (.getfield 80, 3) := by decide +kernel
theorem dX12_gallery_26 : decode cX12_gallery 26 = .ok (.putfield 76, 3) := by decide +kernel
theorem dX12_gallery_29 : decode cX12_gallery 29 = .ok (.aload_n 0, 1) := by decide +kernel
theorem dX12_gallery_30 : decode cX12_gallery 30 = .ok (.aload_n 2, 1) := by decide +kernel
theorem dX12_gallery_31 : decode cX12_gallery 31 = .ok (.putfield 80, 3) := by decide +kernel
theorem dX12_gallery_34 : decode cX12_gallery 34 = .ok (.aload_n 0, 1) := by decide +kernel
theorem dX12_gallery_35 : decode cX12_gallery 35 = .ok (.invokevirtual 114, 3) := by decide +kernel
theorem dX12_gallery_38 : decode cX12_gallery 38 = .ok (.iload_n 1, 1) := by decide +kernel
theorem dX12_gallery_39 : decode cX12_gallery 39 = .ok (.ireturn, 1) := by decide +kernel
set_option maxRecDepth 20000 in
theorem ggX12_startAnew_X3_takeAll : GoodIn wsX12_startAnew wsX3_takeAll := goodIn_r _ [12, 13, 14, 15, 16, 17, 18, 11, 19, 20, 21, 22, 23, 24, 25, 26, 27, 28, 29, 30, 31, 32, 33, 71, 72, 73, 74, 75, 76, 77, 78, 79, 80, 81, 82, 83] (by decide +kernel) (by decide +kernel)
set_option maxRecDepth 20000 in
theorem gX12_startAnew_X3_takeAll : GoodIn wsX12_startAnew (wsV RX12 120 RX3 yX3_takeAll wsX3_takeAll) := goodIn_app (goodIn_of _ (by decide +kernel)) ggX12_startAnew_X3_takeAll
theorem dX12_startAnew_0 : decode cX12_startAnew 0 = .ok (.aload_n 0, 1) := by decide +kernel
theorem dX12_startAnew_1 : decode cX12_startAnew 1 = .ok (.getfield 28, 3) := by decide +kernel
theorem dX12_startAnew_4 : decode cX12_startAnew 4 = .ok (.aload_n 0, 1) := by decide +kernel
theorem dX12_startAnew_5 : decode cX12_startAnew 5 = .ok (.getfield 76, 3) := by decide +kernel
theorem dX12_startAnew_8 : decode cX12_startAnew 8 = .ok (.getfield 117, 3) := by decide +kernel
theorem dX12_startAnew_11 : decode cX12_startAnew 11 = .ok (.invokevirtual 120, 3) := by decide +kernel
theorem dX12_startAnew_14 : decode cX12_startAnew 14 = .ok (.aload_n 0, 1) := by decide +kernel
theorem dX12_startAnew_15 : decode cX12_startAnew 15 = .ok (.getfield 86, 3) := by decide +kernel
theorem dX12_startAnew_18 : decode cX12_startAnew 18 = .ok (.iconst 0, 1) := by decide +kernel
theorem dX12_startAnew_19 : decode cX12_startAnew 19 = .ok (.putfield 124, 3) := by decide +kernel
theorem dX12_startAnew_22 : decode cX12_startAnew 22 = .ok (.aload_n 0, 1) := by decide +kernel
theorem dX12_startAnew_23 : decode cX12_startAnew 23 = .ok (.iconst 0, 1) := by decide +kernel
theorem dX12_startAnew_24 : decode cX12_startAnew 24 = .ok (.putfield 97, 3) := by decide +kernel
theorem dX12_startAnew_27 : decode cX12_startAnew 27 = .ok (.aload_n 0, 1) := by decide +kernel
theorem dX12_startAnew_28 : decode cX12_startAnew 28 = .ok (.iconst 0, 1) := by decide +kernel
theorem dX12_startAnew_29 : decode cX12_startAnew 29 = .ok (.putfield 100, 3) := by decide +kernel
theorem dX12_startAnew_32 : decode cX12_startAnew 32 = .ok (.return_, 1) := by decide +kernel
set_option maxRecDepth 20000 in
theorem ggX12_nights_X6_read : GoodIn wsX12_nights wsX6_read := goodIn_r _ [9, 10, 11, 12, 13, 14, 15, 16, 17, 18, 19, 20, 21, 22, 23, 24, 25, 26, 27, 28, 29, 30, 31, 32, 33, 34, 35, 36, 37, 38, 39, 40, 41, 42, 43, 44, 45, 46, 47, 48, 49, 50, 51, 52, 53, 54, 55, 56, 57, 58, 59, 60, 61, 62, 63, 64, 65, 66, 67, 68, 69, 70, 71, 72, 73, 74, 75, 76, 77, 78, 79, 80, 81, 82, 83, 84, 85, 86, 87, 88, 89, 90, 91, 92, 93, 94, 95, 96, 97, 98, 99, 100, 101, 102, 103, 104, 105, 106, 107, 108, 109, 110, 111, 112, 113, 114, 115, 116, 117, 118, 119, 120, 121, 122, 123, 124, 125, 126, 127, 128, 129, 130, 131, 132, 133, 134, 135, 136, 137, 138, 139, 140, 141, 142, 143, 144, 145, 146, 147, 148, 149, 150, 151, 152, 153, 154, 155, 156, 157, 8, 158, 159, 160, 161, 162, 163, 164, 165, 166, 167, 168, 169, 170, 171, 172, 173, 174, 175, 176, 177, 178, 179, 180, 181, 182, 183, 184, 185, 186, 187, 188, 189, 190, 191, 192, 193, 194, 195, 196, 197, 198, 199, 200, 201, 202, 203, 204, 205, 206, 207, 208, 209, 210, 211, 212, 213, 214, 215, 216, 217, 218, 219, 220, 221, 222, 223, 224, 225, 226, 227, 228, 229, 230, 231, 232, 233, 234, 235, 236, 237, 238, 239, 240, 241, 242, 243, 244, 245, 246, 247, 248, 249, 269, 270, 271, 272, 273, 274, 275, 276, 277, 278, 279, 280, 281, 282, 283, 284, 285, 286, 287, 288, 289, 290, 291, 292, 293, 294] (by decide +kernel) (by decide +kernel)
set_option maxRecDepth 20000 in
theorem gX12_nights_X6_read : GoodIn wsX12_nights (wsV RX12 127 RX6 yX6_read wsX6_read) := goodIn_app (goodIn_of _ (by decide +kernel)) ggX12_nights_X6_read
theorem dX12_nights_0 : decode cX12_nights 0 = .ok (.aload_n 0, 1) := by decide +kernel
theorem dX12_nights_1 : decode cX12_nights 1 = .ok (.getfield 90, 3) := by decide +kernel
theorem dX12_nights_4 : decode cX12_nights 4 = .ok (.aload_n 0, 1) := by decide +kernel
theorem dX12_nights_5 : decode cX12_nights 5 = .ok (.getfield 12, 3) := by decide +kernel
theorem dX12_nights_8 : decode cX12_nights 8 = .ok (.aload_n 0, 1) := by decide +kernel
theorem dX12_nights_9 : decode cX12_nights 9 = .ok (.getfield 76, 3) := by decide +kernel
theorem dX12_nights_12 : decode cX12_nights 12 = .ok (.invokevirtual 127, 3) := by decide +kernel
theorem dX12_nights_15 : decode cX12_nights 15 = .ok (.istore_n 1, 1) := by decide +kernel
theorem dX12_nights_16 : decode cX12_nights 16 = .ok (.iload_n 1, 1) := by decide +kernel
theorem dX12_nights_17 : decode cX12_nights 17 = .ok (.ifCond .ne 21, 3) := by decide +kernel
theorem dX12_nights_20 : decode cX12_nights 20 = .ok (.aload_n 0, 1) := by decide +kernel
theorem dX12_nights_21 : decode cX12_nights 21 = .ok (.getfield 86, 3) := by decide +kernel
theorem dX12_nights_24 : decode cX12_nights 24 = .ok (.astore_n 2, 1) := by decide +kernel
theorem dX12_nights_25 : decode cX12_nights 25 = .ok (.aload_n 0, 1) := by decide +kernel
theorem dX12_nights_26 : decode cX12_nights 26 = .ok (.aload_n 0, 1) := by decide +kernel
theorem dX12_nights_27 : decode cX12_nights 27 = .ok (.getfield 90, 3) := by decide +kernel
theorem dX12_nights_30 : decode cX12_nights 30 = .ok (.putfield 86, 3) := by decide +kernel
theorem dX12_nights_33 : decode cX12_nights 33 = .ok (.aload_n 0, 1) := by decide +kernel
theorem dX12_nights_34 : decode cX12_nights 34 = .ok (.aload_n 2, 1) := by decide +kernel
theorem dX12_nights_35 : decode cX12_nights 35 = .ok (.putfield 90, 3) := by decide +kernel
theorem dX12_nights_38 : decode cX12_nights 38 = .ok (.iload_n 1, 1) := by decide +kernel
theorem dX12_nights_39 : decode cX12_nights 39 = .ok (.ireturn, 1) := by decide +kernel
set_option maxRecDepth 20000 in
theorem ggX12_piece_X3_isThere : GoodIn wsX12_piece wsX3_isThere := goodIn_r _ [11, 12, 70, 71, 72, 73, 74, 75, 76, 77, 78, 79, 80, 81, 82] (by decide +kernel) (by decide +kernel)
set_option maxRecDepth 20000 in
theorem gX12_piece_X3_isThere : GoodIn wsX12_piece (wsV RX12 130 RX3 yX3_isThere wsX3_isThere) := goodIn_app (goodIn_of _ (by decide +kernel)) ggX12_piece_X3_isThere
set_option maxRecDepth 20000 in
theorem ggX12_piece_X3_worthOf : GoodIn wsX12_piece wsX3_worthOf := goodIn_r _ [16, 17, 18, 19, 20, 21, 22, 23, 24, 25, 26, 27, 28, 10, 29, 30, 31, 32, 33, 34, 35, 36, 37, 38, 39, 40, 41, 42, 43, 44, 45, 46, 47, 48, 49, 50, 83, 84, 85, 86, 87, 88, 89, 90, 91, 92, 93, 94, 95, 70, 71, 72, 73, 74, 75, 76, 77, 78, 79, 80, 81, 82, 96, 97] (by decide +kernel) (by decide +kernel)
set_option maxRecDepth 20000 in
theorem gX12_piece_X3_worthOf : GoodIn wsX12_piece (wsV RX12 146 RX3 yX3_worthOf wsX3_worthOf) := goodIn_app (goodIn_of _ (by decide +kernel)) ggX12_piece_X3_worthOf
theorem dX12_piece_0 : decode cX12_piece 0 = .ok (.aload_n 0, 1) := by decide +kernel
theorem dX12_piece_1 : decode cX12_piece 1 = .ok (.getfield 28, 3) := by decide +kernel
theorem dX12_piece_4 : decode cX12_piece 4 = .ok (.iload_n 1, 1) := by decide +kernel
theorem dX12_piece_5 : decode cX12_piece 5 = .ok (.invokevirtual 130, 3) := by decide +kernel
theorem dX12_piece_8 : decode cX12_piece 8 = .ok (.ifCond .ne 5, 3) := by decide +kernel
theorem dX12_piece_11 : decode cX12_piece 11 = .ok (.iconst (-1), 1) := by decide +kernel
theorem dX12_piece_12 : decode cX12_piece 12 = .ok (.ireturn, 1) := by decide +kernel
theorem dX12_piece_13 : decode cX12_piece 13 = .ok (.iload_n 2, 1) := by decide +kernel
theorem dX12_piece_14 : decode cX12_piece 14 = .ok (.tableswitch 87 0 4 #[34, 44, 54, 64, 74], 34) := by decide +kernel
theorem dX12_piece_48 : decode cX12_piece 48 = .ok (.aload_n 0, 1) := by decide +kernel
theorem dX12_piece_49 : decode cX12_piece 49 = .ok (.getfield 28, 3) := by decide +kernel
theorem dX12_piece_52 : decode cX12_piece 52 = .ok (.getfield 134, 3) := by decide +kernel
theorem dX12_piece_55 : decode cX12_piece 55 = .ok (.iload_n 1, 1) := by decide +kernel
theorem dX12_piece_56 : decode cX12_piece 56 = .ok (.iaload, 1) := by decide +kernel
theorem dX12_piece_57 : decode cX12_piece 57 = .ok (.ireturn, 1) := by decide +kernel
theorem dX12_piece_58 : decode cX12_piece 58 = .ok (.aload_n 0, 1) := by decide +kernel
theorem dX12_piece_59 : decode cX12_piece 59 = .ok (.getfield 28, 3) := by decide +kernel
theorem dX12_piece_62 : decode cX12_piece 62 = .ok (.getfield 137, 3) := by decide +kernel
theorem dX12_piece_65 : decode cX12_piece 65 = .ok (.iload_n 1, 1) := by decide +kernel
theorem dX12_piece_66 : decode cX12_piece 66 = .ok (.iaload, 1) := by decide +kernel
theorem dX12_piece_67 : decode cX12_piece 67 = .ok (.ireturn, 1) := by decide +kernel
theorem dX12_piece_68 : decode cX12_piece 68 = .ok (.aload_n 0, 1) := by decide +kernel
theorem dX12_piece_69 : decode cX12_piece 69 = .ok (.getfield 28, 3) := by decide +kernel
theorem dX12_piece_72 : decode cX12_piece 72 = .ok (.getfield 140, 3) := by decide +kernel
theorem dX12_piece_75 : decode cX12_piece 75 = .ok (.iload_n 1, 1) := by decide +kernel
theorem dX12_piece_76 : decode cX12_piece 76 = .ok (.iaload, 1) := by decide +kernel
theorem dX12_piece_77 : decode cX12_piece 77 = .ok (.ireturn, 1) := by decide +kernel
theorem dX12_piece_78 : decode cX12_piece 78 = .ok (.aload_n 0, 1) := by decide +kernel
theorem dX12_piece_79 : decode cX12_piece 79 = .ok (.getfield 28, 3) := by decide +kernel
theorem dX12_piece_82 : decode cX12_piece 82 = .ok (.getfield 143, 3) := by decide +kernel
theorem dX12_piece_85 : decode cX12_piece 85 = .ok (.iload_n 1, 1) := by decide +kernel
theorem dX12_piece_86 : decode cX12_piece 86 = .ok (.iaload, 1) := by decide +kernel
theorem dX12_piece_87 : decode cX12_piece 87 = .ok (.ireturn, 1) := by decide +kernel
theorem dX12_piece_88 : decode cX12_piece 88 = .ok (.aload_n 0, 1) := by decide +kernel
theorem dX12_piece_89 : decode cX12_piece 89 = .ok (.getfield 28, 3) := by decide +kernel
theorem dX12_piece_92 : decode cX12_piece 92 = .ok (.aload_n 0, 1) := by decide +kernel
theorem dX12_piece_93 : decode cX12_piece 93 = .ok (.getfield 76, 3) := by decide +kernel
theorem dX12_piece_96 : decode cX12_piece 96 = .ok (.iload_n 1, 1) := by decide +kernel
theorem dX12_piece_97 : decode cX12_piece 97 = .ok (.invokevirtual 146, 3) := by decide +kernel
theorem dX12_piece_100 : decode cX12_piece 100 = .ok (.ireturn, 1) := by decide +kernel
theorem dX12_piece_101 : decode cX12_piece 101 = .ok (.iconst (-1), 1) := by decide +kernel
theorem dX12_piece_102 : decode cX12_piece 102 = .ok (.ireturn, 1) := by decide +kernel
set_option maxRecDepth 20000 in
theorem ggX12_distance_X3_isThere : GoodIn wsX12_distance wsX3_isThere := goodIn_r _ [6, 7, 39, 40, 41, 42, 43, 44, 45, 46, 47, 48, 49, 50, 51] (by decide +kernel) (by decide +kernel)
set_option maxRecDepth 20000 in
theorem gX12_distance_X3_isThere : GoodIn wsX12_distance (wsV RX12 130 RX3 yX3_isThere wsX3_isThere) := goodIn_app (goodIn_of _ (by decide +kernel)) ggX12_distance_X3_isThere
set_option maxRecDepth 20000 in
theorem ggX12_distance_X3_apart : GoodIn wsX12_distance wsX3_apart := goodIn_r _ [11, 12, 13, 14, 15, 16, 17, 18, 19, 39, 40, 41, 42, 43, 44, 45, 46, 47, 48, 49, 50, 51] (by decide +kernel) (by decide +kernel)
set_option maxRecDepth 20000 in
theorem gX12_distance_X3_apart : GoodIn wsX12_distance (wsV RX12 150 RX3 yX3_apart wsX3_apart) := goodIn_app (goodIn_of _ (by decide +kernel)) ggX12_distance_X3_apart
theorem dX12_distance_0 : decode cX12_distance 0 = .ok (.aload_n 0, 1) := by decide +kernel
theorem dX12_distance_1 : decode cX12_distance 1 = .ok (.getfield 28, 3) := by decide +kernel
theorem dX12_distance_4 : decode cX12_distance 4 = .ok (.iload_n 1, 1) := by decide +kernel
theorem dX12_distance_5 : decode cX12_distance 5 = .ok (.invokevirtual 130, 3) := by decide +kernel
theorem dX12_distance_8 : decode cX12_distance 8 = .ok (.ifCond .eq 26, 3) := by decide +kernel
theorem dX12_distance_11 : decode cX12_distance 11 = .ok (.aload_n 0, 1) := by decide +kernel
theorem dX12_distance_12 : decode cX12_distance 12 = .ok (.getfield 28, 3) := by decide +kernel
theorem dX12_distance_15 : decode cX12_distance 15 = .ok (.iload_n 2, 1) := by decide +kernel
theorem dX12_distance_16 : decode cX12_distance 16 = .ok (.invokevirtual 130, 3) := by decide +kernel
theorem dX12_distance_19 : decode cX12_distance 19 = .ok (.ifCond .eq 15, 3) := by decide +kernel
theorem dX12_distance_22 : decode cX12_distance 22 = .ok (.aload_n 0, 1) := by decide +kernel
theorem dX12_distance_23 : decode cX12_distance 23 = .ok (.getfield 28, 3) := by decide +kernel
theorem dX12_distance_26 : decode cX12_distance 26 = .ok (.iload_n 1, 1) := by decide +kernel
theorem dX12_distance_27 : decode cX12_distance 27 = .ok (.iload_n 2, 1) := by decide +kernel
theorem dX12_distance_28 : decode cX12_distance 28 = .ok (.invokevirtual 150, 3) := by decide +kernel
theorem dX12_distance_31 : decode cX12_distance 31 = .ok (.goto 4, 3) := by decide +kernel
theorem dX12_distance_34 : decode cX12_distance 34 = .ok (.iconst (-1), 1) := by decide +kernel
theorem dX12_distance_35 : decode cX12_distance 35 = .ok (.ireturn, 1) := by decide +kernel
set_option maxRecDepth 20000 in
theorem ggX12_thief_X1_hasThief : GoodIn wsX12_thief wsX1_hasThief := goodIn_r _ [11, 12, 39, 40, 41, 42, 43, 44, 45, 46, 47, 48, 49, 50, 51] (by decide +kernel) (by decide +kernel)
set_option maxRecDepth 20000 in
theorem gX12_thief_X1_hasThief : GoodIn wsX12_thief (wsV RX12 154 RX1 yX1_hasThief wsX1_hasThief) := goodIn_app (goodIn_of _ (by decide +kernel)) ggX12_thief_X1_hasThief
set_option maxRecDepth 20000 in
theorem ggX12_thief_X3_heldBy : GoodIn wsX12_thief wsX3_heldBy := goodIn_r _ [17, 18, 19, 52, 53, 54, 55, 56, 57, 58, 59, 60, 61, 62, 63, 64] (by decide +kernel) (by decide +kernel)
set_option maxRecDepth 20000 in
theorem gX12_thief_X3_heldBy : GoodIn wsX12_thief (wsV RX12 169 RX3 yX3_heldBy wsX3_heldBy) := goodIn_app (goodIn_of _ (by decide +kernel)) ggX12_thief_X3_heldBy
theorem dX12_thief_0 : decode cX12_thief 0 = .ok (.aload_n 0, 1) := by decide +kernel
theorem dX12_thief_1 : decode cX12_thief 1 = .ok (.getfield 76, 3) := by decide +kernel
theorem dX12_thief_4 : decode cX12_thief 4 = .ok (.iload_n 1, 1) := by decide +kernel
theorem dX12_thief_5 : decode cX12_thief 5 = .ok (.invokevirtual 154, 3) := by decide +kernel
theorem dX12_thief_8 : decode cX12_thief 8 = .ok (.ifCond .ne 5, 3) := by decide +kernel
theorem dX12_thief_11 : decode cX12_thief 11 = .ok (.iconst (-1), 1) := by decide +kernel
theorem dX12_thief_12 : decode cX12_thief 12 = .ok (.ireturn, 1) := by decide +kernel
theorem dX12_thief_13 : decode cX12_thief 13 = .ok (.iload_n 2, 1) := by decide +kernel
theorem dX12_thief_14 : decode cX12_thief 14 = .ok (.tableswitch 83 0 4 #[34, 44, 54, 64, 74], 34) := by decide +kernel
theorem dX12_thief_48 : decode cX12_thief 48 = .ok (.aload_n 0, 1) := by decide +kernel
theorem dX12_thief_49 : decode cX12_thief 49 = .ok (.getfield 76, 3) := by decide +kernel
theorem dX12_thief_52 : decode cX12_thief 52 = .ok (.getfield 157, 3) := by decide +kernel
theorem dX12_thief_55 : decode cX12_thief 55 = .ok (.iload_n 1, 1) := by decide +kernel
theorem dX12_thief_56 : decode cX12_thief 56 = .ok (.iaload, 1) := by decide +kernel
theorem dX12_thief_57 : decode cX12_thief 57 = .ok (.ireturn, 1) := by decide +kernel
theorem dX12_thief_58 : decode cX12_thief 58 = .ok (.aload_n 0, 1) := by decide +kernel
theorem dX12_thief_59 : decode cX12_thief 59 = .ok (.getfield 76, 3) := by decide +kernel
theorem dX12_thief_62 : decode cX12_thief 62 = .ok (.getfield 160, 3) := by decide +kernel
theorem dX12_thief_65 : decode cX12_thief 65 = .ok (.iload_n 1, 1) := by decide +kernel
theorem dX12_thief_66 : decode cX12_thief 66 = .ok (.iaload, 1) := by decide +kernel
theorem dX12_thief_67 : decode cX12_thief 67 = .ok (.ireturn, 1) := by decide +kernel
theorem dX12_thief_68 : decode cX12_thief 68 = .ok (.aload_n 0, 1) := by decide +kernel
theorem dX12_thief_69 : decode cX12_thief 69 = .ok (.getfield 28, 3) := by decide +kernel
theorem dX12_thief_72 : decode cX12_thief 72 = .ok (.getfield 163, 3) := by decide +kernel
theorem dX12_thief_75 : decode cX12_thief 75 = .ok (.iload_n 1, 1) := by decide +kernel
theorem dX12_thief_76 : decode cX12_thief 76 = .ok (.iaload, 1) := by decide +kernel
theorem dX12_thief_77 : decode cX12_thief 77 = .ok (.ireturn, 1) := by decide +kernel
theorem dX12_thief_78 : decode cX12_thief 78 = .ok (.aload_n 0, 1) := by decide +kernel
theorem dX12_thief_79 : decode cX12_thief 79 = .ok (.getfield 76, 3) := by decide +kernel
theorem dX12_thief_82 : decode cX12_thief 82 = .ok (.getfield 166, 3) := by decide +kernel
theorem dX12_thief_85 : decode cX12_thief 85 = .ok (.iload_n 1, 1) := by decide +kernel
theorem dX12_thief_86 : decode cX12_thief 86 = .ok (.iaload, 1) := by decide +kernel
theorem dX12_thief_87 : decode cX12_thief 87 = .ok (.ireturn, 1) := by decide +kernel
theorem dX12_thief_88 : decode cX12_thief 88 = .ok (.aload_n 0, 1) := by decide +kernel
theorem dX12_thief_89 : decode cX12_thief 89 = .ok (.getfield 28, 3) := by decide +kernel
theorem dX12_thief_92 : decode cX12_thief 92 = .ok (.iload_n 1, 1) := by decide +kernel
theorem dX12_thief_93 : decode cX12_thief 93 = .ok (.invokevirtual 169, 3) := by decide +kernel
theorem dX12_thief_96 : decode cX12_thief 96 = .ok (.ireturn, 1) := by decide +kernel
theorem dX12_thief_97 : decode cX12_thief 97 = .ok (.iconst (-1), 1) := by decide +kernel
theorem dX12_thief_98 : decode cX12_thief 98 = .ok (.ireturn, 1) := by decide +kernel
set_option maxRecDepth 20000 in
theorem ggX12_count_X3_allCoins : GoodIn wsX12_count wsX3_allCoins := goodIn_r _ [20, 21, 54, 55, 56, 57, 58, 59, 60, 61, 62, 63, 64, 65, 66] (by decide +kernel) (by decide +kernel)
set_option maxRecDepth 20000 in
theorem gX12_count_X3_allCoins : GoodIn wsX12_count (wsV RX12 191 RX3 yX3_allCoins wsX3_allCoins) := goodIn_app (goodIn_of _ (by decide +kernel)) ggX12_count_X3_allCoins
theorem dX12_count_0 : decode cX12_count 0 = .ok (.iload_n 1, 1) := by decide +kernel
theorem dX12_count_1 : decode cX12_count 1 = .ok (.tableswitch 156 0 11 #[63, 71, 79, 87, 95, 103, 111, 119, 127, 135, 143, 148], 63) := by decide +kernel
theorem dX12_count_64 : decode cX12_count 64 = .ok (.aload_n 0, 1) := by decide +kernel
theorem dX12_count_65 : decode cX12_count 65 = .ok (.getfield 76, 3) := by decide +kernel
theorem dX12_count_68 : decode cX12_count 68 = .ok (.getfield 173, 3) := by decide +kernel
theorem dX12_count_71 : decode cX12_count 71 = .ok (.ireturn, 1) := by decide +kernel
theorem dX12_count_72 : decode cX12_count 72 = .ok (.aload_n 0, 1) := by decide +kernel
theorem dX12_count_73 : decode cX12_count 73 = .ok (.getfield 28, 3) := by decide +kernel
theorem dX12_count_76 : decode cX12_count 76 = .ok (.getfield 176, 3) := by decide +kernel
theorem dX12_count_79 : decode cX12_count 79 = .ok (.ireturn, 1) := by decide +kernel
theorem dX12_count_80 : decode cX12_count 80 = .ok (.aload_n 0, 1) := by decide +kernel
theorem dX12_count_81 : decode cX12_count 81 = .ok (.getfield 76, 3) := by decide +kernel
theorem dX12_count_84 : decode cX12_count 84 = .ok (.getfield 179, 3) := by decide +kernel
theorem dX12_count_87 : decode cX12_count 87 = .ok (.ireturn, 1) := by decide +kernel
theorem dX12_count_88 : decode cX12_count 88 = .ok (.aload_n 0, 1) := by decide +kernel
theorem dX12_count_89 : decode cX12_count 89 = .ok (.getfield 76, 3) := by decide +kernel
theorem dX12_count_92 : decode cX12_count 92 = .ok (.getfield 182, 3) := by decide +kernel
theorem dX12_count_95 : decode cX12_count 95 = .ok (.ireturn, 1) := by decide +kernel
theorem dX12_count_96 : decode cX12_count 96 = .ok (.aload_n 0, 1) := by decide +kernel
theorem dX12_count_97 : decode cX12_count 97 = .ok (.getfield 28, 3) := by decide +kernel
theorem dX12_count_100 : decode cX12_count 100 = .ok (.getfield 185, 3) := by decide +kernel
theorem dX12_count_103 : decode cX12_count 103 = .ok (.ireturn, 1) := by decide +kernel
theorem dX12_count_104 : decode cX12_count 104 = .ok (.aload_n 0, 1) := by decide +kernel
theorem dX12_count_105 : decode cX12_count 105 = .ok (.getfield 28, 3) := by decide +kernel
theorem dX12_count_108 : decode cX12_count 108 = .ok (.getfield 188, 3) := by decide +kernel
theorem dX12_count_111 : decode cX12_count 111 = .ok (.ireturn, 1) := by decide +kernel
theorem dX12_count_112 : decode cX12_count 112 = .ok (.aload_n 0, 1) := by decide +kernel
theorem dX12_count_113 : decode cX12_count 113 = .ok (.getfield 28, 3) := by decide +kernel
theorem dX12_count_116 : decode cX12_count 116 = .ok (.invokevirtual 191, 3) := by decide +kernel
theorem dX12_count_119 : decode cX12_count 119 = .ok (.ireturn, 1) := by decide +kernel
theorem dX12_count_120 : decode cX12_count 120 = .ok (.aload_n 0, 1) := by decide +kernel
theorem dX12_count_121 : decode cX12_count 121 = .ok (.getfield 28, 3) := by decide +kernel
theorem dX12_count_124 : decode cX12_count 124 = .ok (.getfield 195, 3) := by decide +kernel
theorem dX12_count_127 : decode cX12_count 127 = .ok (.ireturn, 1) := by decide +kernel
theorem dX12_count_128 : decode cX12_count 128 = .ok (.aload_n 0, 1) := by decide +kernel
theorem dX12_count_129 : decode cX12_count 129 = .ok (.getfield 86, 3) := by decide +kernel
theorem dX12_count_132 : decode cX12_count 132 = .ok (.getfield 124, 3) := by decide +kernel
theorem dX12_count_135 : decode cX12_count 135 = .ok (.ireturn, 1) := by decide +kernel
theorem dX12_count_136 : decode cX12_count 136 = .ok (.aload_n 0, 1) := by decide +kernel
theorem dX12_count_137 : decode cX12_count 137 = .ok (.getfield 28, 3) := by decide +kernel
theorem dX12_count_140 : decode cX12_count 140 = .ok (.getfield 198, 3) := by decide +kernel
theorem dX12_count_143 : decode cX12_count 143 = .ok (.ireturn, 1) := by decide +kernel
theorem dX12_count_144 : decode cX12_count 144 = .ok (.aload_n 0, 1) := by decide +kernel
theorem dX12_count_145 : decode cX12_count 145 = .ok (.getfield 97, 3) := by decide +kernel
theorem dX12_count_148 : decode cX12_count 148 = .ok (.ireturn, 1) := by decide +kernel
theorem dX12_count_149 : decode cX12_count 149 = .ok (.aload_n 0, 1) := by decide +kernel
theorem dX12_count_150 : decode cX12_count 150 = .ok (.getfield 12, 3) := by decide +kernel
theorem dX12_count_153 : decode cX12_count 153 = .ok (.getfield 107, 3) := by decide +kernel
theorem dX12_count_156 : decode cX12_count 156 = .ok (.ireturn, 1) := by decide +kernel
theorem dX12_count_157 : decode cX12_count 157 = .ok (.iconst (-1), 1) := by decide +kernel
theorem dX12_count_158 : decode cX12_count 158 = .ok (.ireturn, 1) := by decide +kernel
set_option maxRecDepth 20000 in
theorem ggX12_steal_X12_noteNow : GoodIn wsX12_steal wsX12_noteNow := goodIn_r _ [7, 8, 9, 1, 10, 11, 12, 6, 13, 14, 15, 16, 17, 18, 19, 20, 21, 22, 23, 24, 25, 26, 27, 28, 29, 30, 31, 32, 33, 66, 67, 68, 69, 70, 71, 72, 73, 74, 75, 76, 77, 78, 79, 80, 81, 82, 83, 84, 85, 86, 87, 88, 89, 90, 91, 92, 93, 94, 95, 96, 97] (by decide +kernel) (by decide +kernel)
set_option maxRecDepth 20000 in
theorem gX12_steal_X12_noteNow : GoodIn wsX12_steal (wsV RX12 201 RX12 yX12_noteNow wsX12_noteNow) := goodIn_app (goodIn_of _ (by decide +kernel)) ggX12_steal_X12_noteNow
set_option maxRecDepth 20000 in
theorem ggX12_steal_X3_swap : GoodIn wsX12_steal wsX3_swap := goodIn_r _ [37, 32, 28, 38, 20, 39, 40, 41, 18, 42, 43, 44, 45, 46, 47, 48, 49, 50, 51, 52, 31, 53, 54, 55, 56, 57, 33, 85, 86, 87, 88, 89, 90, 91, 92, 93, 94, 95, 96, 97, 98, 99, 100, 101, 102, 103, 104, 105, 106, 107, 108, 109, 110] (by decide +kernel) (by decide +kernel)
set_option maxRecDepth 20000 in
theorem gX12_steal_X3_swap : GoodIn wsX12_steal (wsV RX12 204 RX3 yX3_swap wsX3_swap) := goodIn_app (goodIn_of _ (by decide +kernel)) ggX12_steal_X3_swap
set_option maxRecDepth 20000 in
theorem ggX12_steal_X12_keptUnlessNone : GoodIn wsX12_steal wsX12_keptUnlessNone := goodIn_r _ [61, 62, 63, 64, 6, 65, 9, 14, 10, 11, 12, 13, 66, 67, 68, 69, 70, 71, 72, 73, 74, 75, 76, 77, 78, 79, 80, 81, 82, 83, 84] (by decide +kernel) (by decide +kernel)
set_option maxRecDepth 20000 in
theorem gX12_steal_X12_keptUnlessNone : GoodIn wsX12_steal (wsV RX12 208 RX12 yX12_keptUnlessNone wsX12_keptUnlessNone) := goodIn_app (goodIn_of _ (by decide +kernel)) ggX12_steal_X12_keptUnlessNone
theorem dX12_steal_0 : decode cX12_steal 0 = .ok (.aload_n 0, 1) := by decide +kernel
theorem dX12_steal_1 : decode cX12_steal 1 = .ok (.invokevirtual 201, 3) := by decide +kernel
theorem dX12_steal_4 : decode cX12_steal 4 = .ok (.aload_n 0, 1) := by decide +kernel
theorem dX12_steal_5 : decode cX12_steal 5 = .ok (.aload_n 0, 1) := by decide +kernel
theorem dX12_steal_6 : decode cX12_steal 6 = .ok (.getfield 28, 3) := by decide +kernel
theorem dX12_steal_9 : decode cX12_steal 9 = .ok (.aload_n 0, 1) := by decide +kernel
theorem dX12_steal_10 : decode cX12_steal 10 = .ok (.getfield 76, 3) := by decide +kernel
theorem dX12_steal_13 : decode cX12_steal 13 = .ok (.iload_n 1, 1) := by decide +kernel
theorem dX12_steal_14 : decode cX12_steal 14 = .ok (.iload_n 2, 1) := by decide +kernel
theorem dX12_steal_15 : decode cX12_steal 15 = .ok (.invokevirtual 204, 3) := by decide +kernel
theorem dX12_steal_18 : decode cX12_steal 18 = .ok (.invokevirtual 208, 3) := by decide +kernel
theorem dX12_steal_21 : decode cX12_steal 21 = .ok (.ireturn, 1) := by decide +kernel
set_option maxRecDepth 20000 in
theorem ggX12_paint_X12_noteNow : GoodIn wsX12_paint wsX12_noteNow := goodIn_r _ [7, 8, 9, 1, 10, 11, 12, 6, 13, 14, 15, 16, 17, 18, 19, 20, 21, 22, 23, 24, 25, 26, 27, 28, 29, 30, 31, 32, 33, 96, 97, 98, 99, 100, 101, 102, 103, 104, 105, 106, 107, 108, 109, 110, 111, 112, 113, 114, 115, 116, 117, 118, 119, 120, 121, 122, 123, 124, 125, 126, 127] (by decide +kernel) (by decide +kernel)
set_option maxRecDepth 20000 in
theorem gX12_paint_X12_noteNow : GoodIn wsX12_paint (wsV RX12 201 RX12 yX12_noteNow wsX12_noteNow) := goodIn_app (goodIn_of _ (by decide +kernel)) ggX12_paint_X12_noteNow
set_option maxRecDepth 20000 in
theorem ggX12_paint_X3_copyOf : GoodIn wsX12_paint wsX3_copyOf := goodIn_r _ [37, 31, 38, 28, 39, 40, 41, 42, 43, 44, 45, 46, 47, 48, 18, 49, 50, 51, 52, 53, 54, 55, 56, 57, 58, 59, 60, 61, 62, 63, 20, 64, 65, 66, 67, 68, 69, 70, 71, 72, 73, 74, 75, 76, 77, 78, 79, 80, 81, 82, 83, 84, 85, 86, 87, 25, 26, 27, 115, 116, 117, 118, 119, 120, 121, 122, 123, 124, 125, 126, 127, 128, 129, 130, 131, 132, 133, 134, 135, 136, 137, 138, 139, 140, 141, 142] (by decide +kernel) (by decide +kernel)
set_option maxRecDepth 20000 in
theorem gX12_paint_X3_copyOf : GoodIn wsX12_paint (wsV RX12 211 RX3 yX3_copyOf wsX3_copyOf) := goodIn_app (goodIn_of _ (by decide +kernel)) ggX12_paint_X3_copyOf
set_option maxRecDepth 20000 in
theorem ggX12_paint_X12_keptUnlessNone : GoodIn wsX12_paint wsX12_keptUnlessNone := goodIn_r _ [91, 92, 93, 94, 6, 95, 9, 14, 10, 11, 12, 13, 96, 97, 98, 99, 100, 101, 102, 103, 104, 105, 106, 107, 108, 109, 110, 111, 112, 113, 114] (by decide +kernel) (by decide +kernel)
set_option maxRecDepth 20000 in
theorem gX12_paint_X12_keptUnlessNone : GoodIn wsX12_paint (wsV RX12 208 RX12 yX12_keptUnlessNone wsX12_keptUnlessNone) := goodIn_app (goodIn_of _ (by decide +kernel)) ggX12_paint_X12_keptUnlessNone
theorem dX12_paint_0 : decode cX12_paint 0 = .ok (.aload_n 0, 1) := by decide +kernel
theorem dX12_paint_1 : decode cX12_paint 1 = .ok (.invokevirtual 201, 3) := by decide +kernel
theorem dX12_paint_4 : decode cX12_paint 4 = .ok (.aload_n 0, 1) := by decide +kernel
theorem dX12_paint_5 : decode cX12_paint 5 = .ok (.aload_n 0, 1) := by decide +kernel
theorem dX12_paint_6 : decode cX12_paint 6 = .ok (.getfield 28, 3) := by decide +kernel
theorem dX12_paint_9 : decode cX12_paint 9 = .ok (.aload_n 0, 1) := by decide +kernel
theorem dX12_paint_10 : decode cX12_paint 10 = .ok (.getfield 76, 3) := by decide +kernel
theorem dX12_paint_13 : decode cX12_paint 13 = .ok (.iload_n 1, 1) := by decide +kernel
theorem dX12_paint_14 : decode cX12_paint 14 = .ok (.iload_n 2, 1) := by decide +kernel
theorem dX12_paint_15 : decode cX12_paint 15 = .ok (.iload_n 3, 1) := by decide +kernel
theorem dX12_paint_16 : decode cX12_paint 16 = .ok (.invokevirtual 211, 3) := by decide +kernel
theorem dX12_paint_19 : decode cX12_paint 19 = .ok (.invokevirtual 208, 3) := by decide +kernel
theorem dX12_paint_22 : decode cX12_paint 22 = .ok (.ireturn, 1) := by decide +kernel
set_option maxRecDepth 20000 in
theorem ggX12_sell_X12_noteNow : GoodIn wsX12_sell wsX12_noteNow := goodIn_r _ [7, 8, 9, 1, 10, 11, 12, 6, 13, 14, 15, 16, 17, 18, 19, 20, 21, 22, 23, 24, 25, 26, 27, 28, 29, 30, 31, 32, 33, 96, 97, 98, 99, 100, 101, 102, 103, 104, 105, 106, 107, 108, 109, 110, 111, 112, 113, 114, 115, 116, 117, 118, 119, 120, 121, 122, 123, 124, 125, 126, 127] (by decide +kernel) (by decide +kernel)
set_option maxRecDepth 20000 in
theorem gX12_sell_X12_noteNow : GoodIn wsX12_sell (wsV RX12 201 RX12 yX12_noteNow wsX12_noteNow) := goodIn_app (goodIn_of _ (by decide +kernel)) ggX12_sell_X12_noteNow
set_option maxRecDepth 20000 in
theorem ggX12_sell_X3_sale : GoodIn wsX12_sell wsX3_sale := goodIn_r _ [37, 29, 28, 38, 39, 40, 18, 41, 42, 43, 44, 45, 46, 47, 48, 49, 50, 51, 31, 52, 53, 54, 55, 56, 27, 57, 58, 59, 60, 61, 62, 63, 64, 65, 66, 67, 20, 68, 69, 70, 71, 72, 73, 74, 75, 76, 77, 78, 79, 80, 81, 82, 83, 84, 85, 86, 87, 115, 116, 117, 118, 119, 120, 121, 122, 123, 124, 125, 126, 127, 128, 129, 130, 131, 132, 133, 134, 135, 136, 137, 138, 139, 140, 141, 142] (by decide +kernel) (by decide +kernel)
set_option maxRecDepth 20000 in
theorem gX12_sell_X3_sale : GoodIn wsX12_sell (wsV RX12 215 RX3 yX3_sale wsX3_sale) := goodIn_app (goodIn_of _ (by decide +kernel)) ggX12_sell_X3_sale
set_option maxRecDepth 20000 in
theorem ggX12_sell_X12_keptUnlessNone : GoodIn wsX12_sell wsX12_keptUnlessNone := goodIn_r _ [91, 92, 93, 94, 6, 95, 9, 14, 10, 11, 12, 13, 96, 97, 98, 99, 100, 101, 102, 103, 104, 105, 106, 107, 108, 109, 110, 111, 112, 113, 114] (by decide +kernel) (by decide +kernel)
set_option maxRecDepth 20000 in
theorem gX12_sell_X12_keptUnlessNone : GoodIn wsX12_sell (wsV RX12 208 RX12 yX12_keptUnlessNone wsX12_keptUnlessNone) := goodIn_app (goodIn_of _ (by decide +kernel)) ggX12_sell_X12_keptUnlessNone
theorem dX12_sell_0 : decode cX12_sell 0 = .ok (.aload_n 0, 1) := by decide +kernel
theorem dX12_sell_1 : decode cX12_sell 1 = .ok (.invokevirtual 201, 3) := by decide +kernel
theorem dX12_sell_4 : decode cX12_sell 4 = .ok (.aload_n 0, 1) := by decide +kernel
theorem dX12_sell_5 : decode cX12_sell 5 = .ok (.aload_n 0, 1) := by decide +kernel
theorem dX12_sell_6 : decode cX12_sell 6 = .ok (.getfield 28, 3) := by decide +kernel
theorem dX12_sell_9 : decode cX12_sell 9 = .ok (.aload_n 0, 1) := by decide +kernel
theorem dX12_sell_10 : decode cX12_sell 10 = .ok (.getfield 76, 3) := by decide +kernel
theorem dX12_sell_13 : decode cX12_sell 13 = .ok (.iload_n 1, 1) := by decide +kernel
theorem dX12_sell_14 : decode cX12_sell 14 = .ok (.iload_n 2, 1) := by decide +kernel
theorem dX12_sell_15 : decode cX12_sell 15 = .ok (.invokevirtual 215, 3) := by decide +kernel
theorem dX12_sell_18 : decode cX12_sell 18 = .ok (.invokevirtual 208, 3) := by decide +kernel
theorem dX12_sell_21 : decode cX12_sell 21 = .ok (.ireturn, 1) := by decide +kernel
set_option maxRecDepth 20000 in
theorem ggX12_guard_X12_noteNow : GoodIn wsX12_guard wsX12_noteNow := goodIn_r _ [6, 7, 8, 1, 9, 10, 11, 5, 12, 13, 14, 15, 16, 17, 18, 19, 20, 21, 22, 23, 24, 25, 26, 27, 28, 29, 30, 31, 32, 41, 42, 43, 44, 45, 46, 47, 48, 49, 50, 51, 52, 53, 54, 55, 56, 57, 58, 59, 60, 61, 62, 63, 64, 65, 66, 67, 68, 69, 70, 71, 72] (by decide +kernel) (by decide +kernel)
set_option maxRecDepth 20000 in
theorem gX12_guard_X12_noteNow : GoodIn wsX12_guard (wsV RX12 201 RX12 yX12_noteNow wsX12_noteNow) := goodIn_app (goodIn_of _ (by decide +kernel)) ggX12_guard_X12_noteNow
set_option maxRecDepth 20000 in
theorem ggX12_guard_X3_setGuard : GoodIn wsX12_guard wsX3_setGuard := goodIn_r _ [36, 32, 60, 61, 62, 63, 64, 65, 66, 67, 68, 69, 70, 71, 72] (by decide +kernel) (by decide +kernel)
set_option maxRecDepth 20000 in
theorem gX12_guard_X3_setGuard : GoodIn wsX12_guard (wsV RX12 218 RX3 yX3_setGuard wsX3_setGuard) := goodIn_app (goodIn_of _ (by decide +kernel)) ggX12_guard_X3_setGuard
set_option maxRecDepth 20000 in
theorem ggX12_guard_X12_keepNoted : GoodIn wsX12_guard wsX12_keepNoted := goodIn_r _ [40, 8, 13, 9, 10, 11, 5, 12, 41, 42, 43, 44, 45, 46, 47, 48, 49, 50, 51, 52, 53, 54, 55, 56, 57, 58, 59] (by decide +kernel) (by decide +kernel)
set_option maxRecDepth 20000 in
theorem gX12_guard_X12_keepNoted : GoodIn wsX12_guard (wsV RX12 221 RX12 yX12_keepNoted wsX12_keepNoted) := goodIn_app (goodIn_of _ (by decide +kernel)) ggX12_guard_X12_keepNoted
theorem dX12_guard_0 : decode cX12_guard 0 = .ok (.aload_n 0, 1) := by decide +kernel
theorem dX12_guard_1 : decode cX12_guard 1 = .ok (.invokevirtual 201, 3) := by decide +kernel
theorem dX12_guard_4 : decode cX12_guard 4 = .ok (.aload_n 0, 1) := by decide +kernel
theorem dX12_guard_5 : decode cX12_guard 5 = .ok (.getfield 28, 3) := by decide +kernel
theorem dX12_guard_8 : decode cX12_guard 8 = .ok (.iload_n 1, 1) := by decide +kernel
theorem dX12_guard_9 : decode cX12_guard 9 = .ok (.invokevirtual 218, 3) := by decide +kernel
theorem dX12_guard_12 : decode cX12_guard 12 = .ok (.istore_n 2, 1) := by decide +kernel
theorem dX12_guard_13 : decode cX12_guard 13 = .ok (.iload_n 2, 1) := by decide +kernel
theorem dX12_guard_14 : decode cX12_guard 14 = .ok (.ifCond .eq 7, 3) := by decide +kernel
theorem dX12_guard_17 : decode cX12_guard 17 = .ok (.aload_n 0, 1) := by decide +kernel
theorem dX12_guard_18 : decode cX12_guard 18 = .ok (.invokevirtual 221, 3) := by decide +kernel
theorem dX12_guard_21 : decode cX12_guard 21 = .ok (.iload_n 2, 1) := by decide +kernel
theorem dX12_guard_22 : decode cX12_guard 22 = .ok (.ireturn, 1) := by decide +kernel
set_option maxRecDepth 20000 in
theorem ggX12_night_X12_noteNow : GoodIn wsX12_night wsX12_noteNow := goodIn_r _ [7, 8, 9, 1, 10, 11, 12, 6, 13, 14, 15, 16, 17, 18, 19, 20, 21, 22, 23, 24, 25, 26, 27, 28, 29, 30, 31, 32, 33, 42, 43, 44, 45, 46, 47, 48, 49, 50, 51, 52, 53, 54, 55, 56, 57, 58, 59, 60, 61, 62, 63, 64, 65, 66, 67, 68, 69, 70, 71, 72, 73] (by decide +kernel) (by decide +kernel)
set_option maxRecDepth 20000 in
theorem gX12_night_X12_noteNow : GoodIn wsX12_night (wsV RX12 201 RX12 yX12_noteNow wsX12_noteNow) := goodIn_app (goodIn_of _ (by decide +kernel)) ggX12_night_X12_noteNow
set_option maxRecDepth 20000 in
theorem ggX12_night_X12_keepNoted : GoodIn wsX12_night wsX12_keepNoted := goodIn_r _ [37, 9, 14, 10, 11, 12, 6, 13, 42, 43, 44, 45, 46, 47, 48, 49, 50, 51, 52, 53, 54, 55, 56, 57, 58, 59, 60] (by decide +kernel) (by decide +kernel)
set_option maxRecDepth 20000 in
theorem gX12_night_X12_keepNoted : GoodIn wsX12_night (wsV RX12 221 RX12 yX12_keepNoted wsX12_keepNoted) := goodIn_app (goodIn_of _ (by decide +kernel)) ggX12_night_X12_keepNoted
set_option maxRecDepth 20000 in
theorem ggX12_night_X3_passNight : GoodIn wsX12_night wsX3_passNight := goodIn_r _ [41, 27, 32, 33, 30, 61, 62, 63, 64, 65, 66, 67, 68, 69, 70, 71, 72, 73] (by decide +kernel) (by decide +kernel)
set_option maxRecDepth 20000 in
theorem gX12_night_X3_passNight : GoodIn wsX12_night (wsV RX12 224 RX3 yX3_passNight wsX3_passNight) := goodIn_app (goodIn_of _ (by decide +kernel)) ggX12_night_X3_passNight
theorem dX12_night_0 : decode cX12_night 0 = .ok (.aload_n 0, 1) := by decide +kernel
theorem dX12_night_1 : decode cX12_night 1 = .ok (.invokevirtual 201, 3) := by decide +kernel
theorem dX12_night_4 : decode cX12_night 4 = .ok (.aload_n 0, 1) := by decide +kernel
theorem dX12_night_5 : decode cX12_night 5 = .ok (.invokevirtual 221, 3) := by decide +kernel
theorem dX12_night_8 : decode cX12_night 8 = .ok (.aload_n 0, 1) := by decide +kernel
theorem dX12_night_9 : decode cX12_night 9 = .ok (.getfield 28, 3) := by decide +kernel
theorem dX12_night_12 : decode cX12_night 12 = .ok (.invokevirtual 224, 3) := by decide +kernel
theorem dX12_night_15 : decode cX12_night 15 = .ok (.aload_n 0, 1) := by decide +kernel
theorem dX12_night_16 : decode cX12_night 16 = .ok (.getfield 28, 3) := by decide +kernel
theorem dX12_night_19 : decode cX12_night 19 = .ok (.getfield 185, 3) := by decide +kernel
theorem dX12_night_22 : decode cX12_night 22 = .ok (.ireturn, 1) := by decide +kernel
set_option maxRecDepth 20000 in
theorem ggX12_undo_X12_pastRow : GoodIn wsX12_undo wsX12_pastRow := goodIn_r _ [8, 9, 29, 30, 31, 32, 33, 34, 35, 36, 37, 38, 39, 40, 41, 42, 43, 44, 45, 46, 47] (by decide +kernel) (by decide +kernel)
set_option maxRecDepth 20000 in
theorem gX12_undo_X12_pastRow : GoodIn wsX12_undo (wsV RX12 227 RX12 yX12_pastRow wsX12_pastRow) := goodIn_app (goodIn_of _ (by decide +kernel)) ggX12_undo_X12_pastRow
set_option maxRecDepth 20000 in
theorem ggX12_undo_X3_takeNights : GoodIn wsX12_undo wsX3_takeNights := goodIn_r _ [14, 15, 16, 17, 18, 19, 20, 21, 22, 23, 24, 25, 26, 27, 28, 48, 49, 50, 51, 52, 53, 54, 55, 56, 57, 58, 59, 60] (by decide +kernel) (by decide +kernel)
set_option maxRecDepth 20000 in
theorem gX12_undo_X3_takeNights : GoodIn wsX12_undo (wsV RX12 230 RX3 yX3_takeNights wsX3_takeNights) := goodIn_app (goodIn_of _ (by decide +kernel)) ggX12_undo_X3_takeNights
theorem dX12_undo_0 : decode cX12_undo 0 = .ok (.aload_n 0, 1) := by decide +kernel
theorem dX12_undo_1 : decode cX12_undo 1 = .ok (.getfield 97, 3) := by decide +kernel
theorem dX12_undo_4 : decode cX12_undo 4 = .ok (.ifCond .gt 5, 3) := by decide +kernel
theorem dX12_undo_7 : decode cX12_undo 7 = .ok (.iconst 0, 1) := by decide +kernel
theorem dX12_undo_8 : decode cX12_undo 8 = .ok (.ireturn, 1) := by decide +kernel
theorem dX12_undo_9 : decode cX12_undo 9 = .ok (.aload_n 0, 1) := by decide +kernel
theorem dX12_undo_10 : decode cX12_undo 10 = .ok (.dup, 1) := by decide +kernel
theorem dX12_undo_11 : decode cX12_undo 11 = .ok (.getfield 97, 3) := by decide +kernel
theorem dX12_undo_14 : decode cX12_undo 14 = .ok (.iconst 1, 1) := by decide +kernel
theorem dX12_undo_15 : decode cX12_undo 15 = .ok (.isub, 1) := by decide +kernel
theorem dX12_undo_16 : decode cX12_undo 16 = .ok (.putfield 97, 3) := by decide +kernel
theorem dX12_undo_19 : decode cX12_undo 19 = .ok (.aload_n 0, 1) := by decide +kernel
theorem dX12_undo_20 : decode cX12_undo 20 = .ok (.getfield 28, 3) := by decide +kernel
theorem dX12_undo_23 : decode cX12_undo 23 = .ok (.aload_n 0, 1) := by decide +kernel
theorem dX12_undo_24 : decode cX12_undo 24 = .ok (.getfield 35, 3) := by decide +kernel
theorem dX12_undo_27 : decode cX12_undo 27 = .ok (.aload_n 0, 1) := by decide +kernel
theorem dX12_undo_28 : decode cX12_undo 28 = .ok (.aload_n 0, 1) := by decide +kernel
theorem dX12_undo_29 : decode cX12_undo 29 = .ok (.getfield 97, 3) := by decide +kernel
theorem dX12_undo_32 : decode cX12_undo 32 = .ok (.invokevirtual 227, 3) := by decide +kernel
theorem dX12_undo_35 : decode cX12_undo 35 = .ok (.aaload, 1) := by decide +kernel
theorem dX12_undo_36 : decode cX12_undo 36 = .ok (.invokevirtual 230, 3) := by decide +kernel
theorem dX12_undo_39 : decode cX12_undo 39 = .ok (.iconst 1, 1) := by decide +kernel
theorem dX12_undo_40 : decode cX12_undo 40 = .ok (.ireturn, 1) := by decide +kernel
theorem dX12_pastRow_0 : decode cX12_pastRow 0 = .ok (.aload_n 0, 1) := by decide +kernel
theorem dX12_pastRow_1 : decode cX12_pastRow 1 = .ok (.getfield 93, 3) := by decide +kernel
theorem dX12_pastRow_4 : decode cX12_pastRow 4 = .ok (.iload_n 1, 1) := by decide +kernel
theorem dX12_pastRow_5 : decode cX12_pastRow 5 = .ok (.iadd, 1) := by decide +kernel
theorem dX12_pastRow_6 : decode cX12_pastRow 6 = .ok (.bipush 17, 2) := by decide +kernel
theorem dX12_pastRow_8 : decode cX12_pastRow 8 = .ok (.irem, 1) := by decide +kernel
theorem dX12_pastRow_9 : decode cX12_pastRow 9 = .ok (.ireturn, 1) := by decide +kernel
set_option maxRecDepth 20000 in
theorem ggX12_noteNow_X12_pastRow : GoodIn wsX12_noteNow wsX12_pastRow := goodIn_r _ [8, 9, 29, 30, 31, 32, 33, 34, 35, 36, 37, 38, 39, 40, 41, 42, 43, 44, 45, 46, 47] (by decide +kernel) (by decide +kernel)
set_option maxRecDepth 20000 in
theorem gX12_noteNow_X12_pastRow : GoodIn wsX12_noteNow (wsV RX12 227 RX12 yX12_pastRow wsX12_pastRow) := goodIn_app (goodIn_of _ (by decide +kernel)) ggX12_noteNow_X12_pastRow
set_option maxRecDepth 20000 in
theorem ggX12_noteNow_X3_takeNights : GoodIn wsX12_noteNow wsX3_takeNights := goodIn_r _ [14, 15, 16, 17, 18, 19, 20, 21, 22, 23, 24, 25, 26, 27, 28, 48, 49, 50, 51, 52, 53, 54, 55, 56, 57, 58, 59, 60] (by decide +kernel) (by decide +kernel)
set_option maxRecDepth 20000 in
theorem gX12_noteNow_X3_takeNights : GoodIn wsX12_noteNow (wsV RX12 230 RX3 yX3_takeNights wsX3_takeNights) := goodIn_app (goodIn_of _ (by decide +kernel)) ggX12_noteNow_X3_takeNights
theorem dX12_noteNow_0 : decode cX12_noteNow 0 = .ok (.aload_n 0, 1) := by decide +kernel
theorem dX12_noteNow_1 : decode cX12_noteNow 1 = .ok (.getfield 35, 3) := by decide +kernel
theorem dX12_noteNow_4 : decode cX12_noteNow 4 = .ok (.aload_n 0, 1) := by decide +kernel
theorem dX12_noteNow_5 : decode cX12_noteNow 5 = .ok (.aload_n 0, 1) := by decide +kernel
theorem dX12_noteNow_6 : decode cX12_noteNow 6 = .ok (.getfield 97, 3) := by decide +kernel
theorem dX12_noteNow_9 : decode cX12_noteNow 9 = .ok (.invokevirtual 227, 3) := by decide +kernel
theorem dX12_noteNow_12 : decode cX12_noteNow 12 = .ok (.aaload, 1) := by decide +kernel
theorem dX12_noteNow_13 : decode cX12_noteNow 13 = .ok (.aload_n 0, 1) := by decide +kernel
theorem dX12_noteNow_14 : decode cX12_noteNow 14 = .ok (.getfield 28, 3) := by decide +kernel
theorem dX12_noteNow_17 : decode cX12_noteNow 17 = .ok (.invokevirtual 230, 3) := by decide +kernel
theorem dX12_noteNow_20 : decode cX12_noteNow 20 = .ok (.return_, 1) := by decide +kernel
set_option maxRecDepth 20000 in
theorem ggX12_keepNoted_X12_pastRow : GoodIn wsX12_keepNoted wsX12_pastRow := goodIn_r _ [7, 2, 8, 9, 10, 11, 12, 13, 14, 15, 16, 17, 18, 19, 20, 21, 22, 23, 24, 25, 26] (by decide +kernel) (by decide +kernel)
set_option maxRecDepth 20000 in
theorem gX12_keepNoted_X12_pastRow : GoodIn wsX12_keepNoted (wsV RX12 227 RX12 yX12_pastRow wsX12_pastRow) := goodIn_app (goodIn_of _ (by decide +kernel)) ggX12_keepNoted_X12_pastRow
theorem dX12_keepNoted_0 : decode cX12_keepNoted 0 = .ok (.aload_n 0, 1) := by decide +kernel
theorem dX12_keepNoted_1 : decode cX12_keepNoted 1 = .ok (.getfield 97, 3) := by decide +kernel
theorem dX12_keepNoted_4 : decode cX12_keepNoted 4 = .ok (.bipush 16, 2) := by decide +kernel
theorem dX12_keepNoted_6 : decode cX12_keepNoted 6 = .ok (.if_icmp .ge 16, 3) := by decide +kernel
theorem dX12_keepNoted_9 : decode cX12_keepNoted 9 = .ok (.aload_n 0, 1) := by decide +kernel
theorem dX12_keepNoted_10 : decode cX12_keepNoted 10 = .ok (.dup, 1) := by decide +kernel
theorem dX12_keepNoted_11 : decode cX12_keepNoted 11 = .ok (.getfield 97, 3) := by decide +kernel
theorem dX12_keepNoted_14 : decode cX12_keepNoted 14 = .ok (.iconst 1, 1) := by decide +kernel
theorem dX12_keepNoted_15 : decode cX12_keepNoted 15 = .ok (.iadd, 1) := by decide +kernel
theorem dX12_keepNoted_16 : decode cX12_keepNoted 16 = .ok (.putfield 97, 3) := by decide +kernel
theorem dX12_keepNoted_19 : decode cX12_keepNoted 19 = .ok (.goto 12, 3) := by decide +kernel
theorem dX12_keepNoted_22 : decode cX12_keepNoted 22 = .ok (.aload_n 0, 1) := by decide +kernel
theorem dX12_keepNoted_23 : decode cX12_keepNoted 23 = .ok (.aload_n 0, 1) := by decide +kernel
theorem dX12_keepNoted_24 : decode cX12_keepNoted 24 = .ok (.iconst 1, 1) := by decide +kernel
theorem dX12_keepNoted_25 : decode cX12_keepNoted 25 = .ok (.invokevirtual 227, 3) := by decide +kernel
theorem dX12_keepNoted_28 : decode cX12_keepNoted 28 = .ok (.putfield 93, 3) := by decide +kernel
theorem dX12_keepNoted_31 : decode cX12_keepNoted 31 = .ok (.return_, 1) := by decide +kernel
set_option maxRecDepth 20000 in
theorem ggX12_keptUnlessNone_X12_keepNoted : GoodIn wsX12_keptUnlessNone wsX12_keepNoted := goodIn_r _ [5, 6, 7, 8, 9, 10, 4, 11, 12, 13, 14, 15, 16, 17, 18, 19, 20, 21, 22, 23, 24, 25, 26, 27, 28, 29, 30] (by decide +kernel) (by decide +kernel)
set_option maxRecDepth 20000 in
theorem gX12_keptUnlessNone_X12_keepNoted : GoodIn wsX12_keptUnlessNone (wsV RX12 221 RX12 yX12_keepNoted wsX12_keepNoted) := goodIn_app (goodIn_of _ (by decide +kernel)) ggX12_keptUnlessNone_X12_keepNoted
theorem dX12_keptUnlessNone_0 : decode cX12_keptUnlessNone 0 = .ok (.iload_n 1, 1) := by decide +kernel
theorem dX12_keptUnlessNone_1 : decode cX12_keptUnlessNone 1 = .ok (.iconst (-1), 1) := by decide +kernel
theorem dX12_keptUnlessNone_2 : decode cX12_keptUnlessNone 2 = .ok (.if_icmp .eq 7, 3) := by decide +kernel
theorem dX12_keptUnlessNone_5 : decode cX12_keptUnlessNone 5 = .ok (.aload_n 0, 1) := by decide +kernel
theorem dX12_keptUnlessNone_6 : decode cX12_keptUnlessNone 6 = .ok (.invokevirtual 221, 3) := by decide +kernel
theorem dX12_keptUnlessNone_9 : decode cX12_keptUnlessNone 9 = .ok (.iload_n 1, 1) := by decide +kernel
theorem dX12_keptUnlessNone_10 : decode cX12_keptUnlessNone 10 = .ok (.ireturn, 1) := by decide +kernel
set_option maxRecDepth 20000 in
theorem ggX12_mark_X3_takeAll : GoodIn wsX12_mark wsX3_takeAll := goodIn_r _ [9, 10, 11, 12, 13, 14, 15, 8, 16, 17, 18, 19, 20, 21, 22, 23, 24, 25, 26, 27, 28, 29, 30, 50, 51, 52, 53, 54, 55, 56, 57, 58, 59, 60, 61, 62] (by decide +kernel) (by decide +kernel)
set_option maxRecDepth 20000 in
theorem gX12_mark_X3_takeAll : GoodIn wsX12_mark (wsV RX12 120 RX3 yX3_takeAll wsX3_takeAll) := goodIn_app (goodIn_of _ (by decide +kernel)) ggX12_mark_X3_takeAll
theorem dX12_mark_0 : decode cX12_mark 0 = .ok (.iload_n 1, 1) := by decide +kernel
theorem dX12_mark_1 : decode cX12_mark 1 = .ok (.ifCond .lt 8, 3) := by decide +kernel
theorem dX12_mark_4 : decode cX12_mark 4 = .ok (.iload_n 1, 1) := by decide +kernel
theorem dX12_mark_5 : decode cX12_mark 5 = .ok (.iconst 4, 1) := by decide +kernel
theorem dX12_mark_6 : decode cX12_mark 6 = .ok (.if_icmp .lt 5, 3) := by decide +kernel
theorem dX12_mark_9 : decode cX12_mark 9 = .ok (.iconst 0, 1) := by decide +kernel
theorem dX12_mark_10 : decode cX12_mark 10 = .ok (.ireturn, 1) := by decide +kernel
theorem dX12_mark_11 : decode cX12_mark 11 = .ok (.iload_n 2, 1) := by decide +kernel
theorem dX12_mark_12 : decode cX12_mark 12 = .ok (.ifCond .ne 30, 3) := by decide +kernel
theorem dX12_mark_15 : decode cX12_mark 15 = .ok (.aload_n 0, 1) := by decide +kernel
theorem dX12_mark_16 : decode cX12_mark 16 = .ok (.getfield 39, 3) := by decide +kernel
theorem dX12_mark_19 : decode cX12_mark 19 = .ok (.iload_n 1, 1) := by decide +kernel
theorem dX12_mark_20 : decode cX12_mark 20 = .ok (.aaload, 1) := by decide +kernel
theorem dX12_mark_21 : decode cX12_mark 21 = .ok (.aload_n 0, 1) := by decide +kernel
theorem dX12_mark_22 : decode cX12_mark 22 = .ok (.getfield 28, 3) := by decide +kernel
theorem dX12_mark_25 : decode cX12_mark 25 = .ok (.invokevirtual 120, 3) := by decide +kernel
theorem dX12_mark_28 : decode cX12_mark 28 = .ok (.aload_n 0, 1) := by decide +kernel
theorem dX12_mark_29 : decode cX12_mark 29 = .ok (.dup, 1) := by decide +kernel
theorem dX12_mark_30 : decode cX12_mark 30 = .ok (.getfield 100, 3) := by decide +kernel
theorem dX12_mark_33 : decode cX12_mark 33 = .ok (.iconst 1, 1) := by decide +kernel
theorem dX12_mark_34 : decode cX12_mark 34 = .ok (.iload_n 1, 1) := by decide +kernel
theorem dX12_mark_35 : decode cX12_mark 35 = .ok (.ishl, 1) := by decide +kernel
theorem dX12_mark_36 : decode cX12_mark 36 = .ok (.ior, 1) := by decide +kernel
theorem dX12_mark_37 : decode cX12_mark 37 = .ok (.putfield 100, 3) := by decide +kernel
theorem dX12_mark_40 : decode cX12_mark 40 = .ok (.iconst 1, 1) := by decide +kernel
theorem dX12_mark_41 : decode cX12_mark 41 = .ok (.ireturn, 1) := by decide +kernel
theorem dX12_mark_42 : decode cX12_mark 42 = .ok (.aload_n 0, 1) := by decide +kernel
theorem dX12_mark_43 : decode cX12_mark 43 = .ok (.getfield 100, 3) := by decide +kernel
theorem dX12_mark_46 : decode cX12_mark 46 = .ok (.iload_n 1, 1) := by decide +kernel
theorem dX12_mark_47 : decode cX12_mark 47 = .ok (.ishr, 1) := by decide +kernel
theorem dX12_mark_48 : decode cX12_mark 48 = .ok (.iconst 1, 1) := by decide +kernel
theorem dX12_mark_49 : decode cX12_mark 49 = .ok (.iand, 1) := by decide +kernel
theorem dX12_mark_50 : decode cX12_mark 50 = .ok (.ifCond .ne 5, 3) := by decide +kernel
theorem dX12_mark_53 : decode cX12_mark 53 = .ok (.iconst 0, 1) := by decide +kernel
theorem dX12_mark_54 : decode cX12_mark 54 = .ok (.ireturn, 1) := by decide +kernel
theorem dX12_mark_55 : decode cX12_mark 55 = .ok (.aload_n 0, 1) := by decide +kernel
theorem dX12_mark_56 : decode cX12_mark 56 = .ok (.getfield 28, 3) := by decide +kernel
theorem dX12_mark_59 : decode cX12_mark 59 = .ok (.aload_n 0, 1) := by decide +kernel
theorem dX12_mark_60 : decode cX12_mark 60 = .ok (.getfield 39, 3) := by decide +kernel
theorem dX12_mark_63 : decode cX12_mark 63 = .ok (.iload_n 1, 1) := by decide +kernel
theorem dX12_mark_64 : decode cX12_mark 64 = .ok (.aaload, 1) := by decide +kernel
theorem dX12_mark_65 : decode cX12_mark 65 = .ok (.invokevirtual 120, 3) := by decide +kernel
theorem dX12_mark_68 : decode cX12_mark 68 = .ok (.aload_n 0, 1) := by decide +kernel
theorem dX12_mark_69 : decode cX12_mark 69 = .ok (.iconst 0, 1) := by decide +kernel
theorem dX12_mark_70 : decode cX12_mark 70 = .ok (.putfield 97, 3) := by decide +kernel
theorem dX12_mark_73 : decode cX12_mark 73 = .ok (.iconst 1, 1) := by decide +kernel
theorem dX12_mark_74 : decode cX12_mark 74 = .ok (.ireturn, 1) := by decide +kernel
set_option maxRecDepth 20000 in
theorem ggX12_judged_X3_takeAll : GoodIn wsX12_judged wsX3_takeAll := goodIn_r _ [10, 11, 12, 13, 14, 15, 16, 9, 17, 18, 19, 20, 21, 22, 23, 24, 25, 26, 27, 28, 29, 30, 31, 173, 174, 175, 176, 177, 178, 179, 180, 181, 182, 183, 184, 185] (by decide +kernel) (by decide +kernel)
set_option maxRecDepth 20000 in
theorem gX12_judged_X3_takeAll : GoodIn wsX12_judged (wsV RX12 120 RX3 yX3_takeAll wsX3_takeAll) := goodIn_app (goodIn_of _ (by decide +kernel)) ggX12_judged_X3_takeAll
set_option maxRecDepth 20000 in
theorem ggX12_judged_X6_play : GoodIn wsX12_judged wsX6_play := goodIn_r _ [36, 37, 38, 39, 40, 35, 41, 42, 43, 44, 45, 46, 47, 48, 9, 49, 30, 26, 50, 18, 51, 52, 53, 54, 55, 56, 57, 58, 59, 60, 61, 62, 63, 64, 29, 65, 66, 67, 68, 69, 31, 70, 71, 72, 73, 74, 75, 76, 77, 78, 79, 80, 81, 82, 83, 84, 85, 86, 87, 88, 89, 90, 91, 92, 93, 94, 95, 96, 97, 98, 99, 100, 101, 102, 103, 104, 105, 106, 107, 108, 109, 110, 111, 112, 23, 24, 25, 113, 114, 115, 116, 27, 117, 118, 119, 120, 121, 122, 123, 124, 125, 126, 127, 128, 129, 130, 131, 132, 133, 134, 135, 136, 28, 186, 187, 188, 189, 190, 173, 174, 175, 176, 177, 178, 179, 180, 181, 182, 183, 184, 185, 160, 161, 162, 163, 164, 165, 166, 167, 168, 169, 170, 171, 172, 191, 192] (by decide +kernel) (by decide +kernel)
set_option maxRecDepth 20000 in
theorem gX12_judged_X6_play : GoodIn wsX12_judged (wsV RX12 233 RX6 yX6_play wsX6_play) := goodIn_app (goodIn_of _ (by decide +kernel)) ggX12_judged_X6_play
set_option maxRecDepth 20000 in
theorem ggX12_judged_X3_allCoins : GoodIn wsX12_judged wsX3_allCoins := goodIn_r _ [140, 27, 173, 174, 175, 176, 177, 178, 179, 180, 181, 182, 183, 184, 185] (by decide +kernel) (by decide +kernel)
set_option maxRecDepth 20000 in
theorem gX12_judged_X3_allCoins : GoodIn wsX12_judged (wsV RX12 191 RX3 yX3_allCoins wsX3_allCoins) := goodIn_app (goodIn_of _ (by decide +kernel)) ggX12_judged_X3_allCoins
theorem dX12_judged_0 : decode cX12_judged 0 = .ok (.iload_n 1, 1) := by decide +kernel
theorem dX12_judged_1 : decode cX12_judged 1 = .ok (.ifCond .lt 8, 3) := by decide +kernel
theorem dX12_judged_4 : decode cX12_judged 4 = .ok (.iload_n 1, 1) := by decide +kernel
theorem dX12_judged_5 : decode cX12_judged 5 = .ok (.iconst 2, 1) := by decide +kernel
theorem dX12_judged_6 : decode cX12_judged 6 = .ok (.if_icmp .le 6, 3) := by decide +kernel
theorem dX12_judged_9 : decode cX12_judged 9 = .ok (.bipush (-2), 2) := by decide +kernel
theorem dX12_judged_11 : decode cX12_judged 11 = .ok (.ireturn, 1) := by decide +kernel
theorem dX12_judged_12 : decode cX12_judged 12 = .ok (.aload_n 0, 1) := by decide +kernel
theorem dX12_judged_13 : decode cX12_judged 13 = .ok (.getfield 32, 3) := by decide +kernel
theorem dX12_judged_16 : decode cX12_judged 16 = .ok (.aload_n 0, 1) := by decide +kernel
theorem dX12_judged_17 : decode cX12_judged 17 = .ok (.getfield 76, 3) := by decide +kernel
theorem dX12_judged_20 : decode cX12_judged 20 = .ok (.getfield 117, 3) := by decide +kernel
theorem dX12_judged_23 : decode cX12_judged 23 = .ok (.invokevirtual 120, 3) := by decide +kernel
theorem dX12_judged_26 : decode cX12_judged 26 = .ok (.aload_n 0, 1) := by decide +kernel
theorem dX12_judged_27 : decode cX12_judged 27 = .ok (.getfield 86, 3) := by decide +kernel
theorem dX12_judged_30 : decode cX12_judged 30 = .ok (.aload_n 0, 1) := by decide +kernel
theorem dX12_judged_31 : decode cX12_judged 31 = .ok (.getfield 32, 3) := by decide +kernel
theorem dX12_judged_34 : decode cX12_judged 34 = .ok (.aload_n 0, 1) := by decide +kernel
theorem dX12_judged_35 : decode cX12_judged 35 = .ok (.getfield 76, 3) := by decide +kernel
theorem dX12_judged_38 : decode cX12_judged 38 = .ok (.invokevirtual 233, 3) := by decide +kernel
theorem dX12_judged_41 : decode cX12_judged 41 = .ok (.istore_n 2, 1) := by decide +kernel
theorem dX12_judged_42 : decode cX12_judged 42 = .ok (.iload_n 1, 1) := by decide +kernel
theorem dX12_judged_43 : decode cX12_judged 43 = .ok (.ifCond .ne 5, 3) := by decide +kernel
theorem dX12_judged_46 : decode cX12_judged 46 = .ok (.iload_n 2, 1) := by decide +kernel
theorem dX12_judged_47 : decode cX12_judged 47 = .ok (.ireturn, 1) := by decide +kernel
theorem dX12_judged_48 : decode cX12_judged 48 = .ok (.iload_n 1, 1) := by decide +kernel
theorem dX12_judged_49 : decode cX12_judged 49 = .ok (.iconst 1, 1) := by decide +kernel
theorem dX12_judged_50 : decode cX12_judged 50 = .ok (.if_icmp .ne 13, 3) := by decide +kernel
theorem dX12_judged_53 : decode cX12_judged 53 = .ok (.aload_n 0, 1) := by decide +kernel
theorem dX12_judged_54 : decode cX12_judged 54 = .ok (.getfield 32, 3) := by decide +kernel
theorem dX12_judged_57 : decode cX12_judged 57 = .ok (.getfield 188, 3) := by decide +kernel
theorem dX12_judged_60 : decode cX12_judged 60 = .ok (.goto 10, 3) := by decide +kernel
theorem dX12_judged_63 : decode cX12_judged 63 = .ok (.aload_n 0, 1) := by decide +kernel
theorem dX12_judged_64 : decode cX12_judged 64 = .ok (.getfield 32, 3) := by decide +kernel
theorem dX12_judged_67 : decode cX12_judged 67 = .ok (.invokevirtual 191, 3) := by decide +kernel
theorem dX12_judged_70 : decode cX12_judged 70 = .ok (.ireturn, 1) := by decide +kernel
set_option maxRecDepth 20000 in
theorem ggX12_years_X11_pass : GoodIn wsX12_years wsX11_pass := goodIn_r _ [11, 12, 13, 14, 15, 16, 17, 18, 19, 20, 21, 22, 23, 24, 25, 26, 27, 28, 29, 30, 31, 32, 33, 34, 35, 36, 37, 10, 38, 39, 40, 41, 42, 43, 44, 45, 46, 47, 48, 49, 50, 51, 52, 53, 54, 55, 56, 57, 58, 59, 60, 61, 62, 63, 64, 65, 66, 67, 68, 69, 70, 71, 72, 73, 74, 75, 76, 77, 78, 79, 80, 81, 82, 83, 84, 85, 86, 87, 88, 89, 90, 91, 92, 93, 94, 95, 96, 97, 98, 99, 100, 101, 102, 103, 104, 105, 106, 107, 108, 109, 110, 111, 112, 113, 114, 115, 116, 117, 118, 119, 120, 121, 122, 123, 124, 125, 126, 127, 128, 129, 130, 131, 132, 133, 134, 135, 136, 137, 138, 139, 140, 141, 142, 143, 144, 145, 146, 147, 172, 173, 174, 188, 189, 190, 191, 192, 193, 194, 195, 196, 197, 198, 199, 200, 175, 176, 177, 178, 179, 180, 181, 182, 183, 184, 185, 186, 187, 201, 202] (by decide +kernel) (by decide +kernel)
set_option maxRecDepth 20000 in
theorem gX12_years_X11_pass : GoodIn wsX12_years (wsV RX12 237 RX11 yX11_pass wsX11_pass) := goodIn_app (goodIn_of _ (by decide +kernel)) ggX12_years_X11_pass
set_option maxRecDepth 20000 in
theorem ggX12_years_X3_allCoins : GoodIn wsX12_years wsX3_allCoins := goodIn_r _ [151, 30, 175, 176, 177, 178, 179, 180, 181, 182, 183, 184, 185, 186, 187] (by decide +kernel) (by decide +kernel)
set_option maxRecDepth 20000 in
theorem gX12_years_X3_allCoins : GoodIn wsX12_years (wsV RX12 191 RX3 yX3_allCoins wsX3_allCoins) := goodIn_app (goodIn_of _ (by decide +kernel)) ggX12_years_X3_allCoins
set_option maxRecDepth 20000 in
theorem ggX12_years_X3_slipsOn : GoodIn wsX12_years wsX3_slipsOn := goodIn_r _ [95, 21, 96, 97, 56, 98, 99, 100, 101, 175, 176, 177, 178, 179, 180, 181, 182, 183, 184, 185, 186, 187] (by decide +kernel) (by decide +kernel)
set_option maxRecDepth 20000 in
theorem gX12_years_X3_slipsOn : GoodIn wsX12_years (wsV RX12 245 RX3 yX3_slipsOn wsX3_slipsOn) := goodIn_app (goodIn_of _ (by decide +kernel)) ggX12_years_X3_slipsOn
theorem dX12_years_0 : decode cX12_years 0 = .ok (.iload_n 1, 1) := by decide +kernel
theorem dX12_years_1 : decode cX12_years 1 = .ok (.ifCond .lt 25, 3) := by decide +kernel
theorem dX12_years_4 : decode cX12_years 4 = .ok (.iload_n 1, 1) := by decide +kernel
theorem dX12_years_5 : decode cX12_years 5 = .ok (.sipush 9999, 3) := by decide +kernel
theorem dX12_years_8 : decode cX12_years 8 = .ok (.if_icmp .gt 18, 3) := by decide +kernel
theorem dX12_years_11 : decode cX12_years 11 = .ok (.iload_n 2, 1) := by decide +kernel
theorem dX12_years_12 : decode cX12_years 12 = .ok (.iconst 1, 1) := by decide +kernel
theorem dX12_years_13 : decode cX12_years 13 = .ok (.if_icmp .lt 13, 3) := by decide +kernel
theorem dX12_years_16 : decode cX12_years 16 = .ok (.iload_n 2, 1) := by decide +kernel
theorem dX12_years_17 : decode cX12_years 17 = .ok (.bipush 60, 2) := by decide +kernel
theorem dX12_years_19 : decode cX12_years 19 = .ok (.if_icmp .gt 7, 3) := by decide +kernel
theorem dX12_years_22 : decode cX12_years 22 = .ok (.iconst 1, 1) := by decide +kernel
theorem dX12_years_23 : decode cX12_years 23 = .ok (.goto 4, 3) := by decide +kernel
theorem dX12_years_26 : decode cX12_years 26 = .ok (.iconst 0, 1) := by decide +kernel
theorem dX12_years_27 : decode cX12_years 27 = .ok (.istore 4, 2) := by decide +kernel
theorem dX12_years_29 : decode cX12_years 29 = .ok (.iload 4, 2) := by decide +kernel
theorem dX12_years_31 : decode cX12_years 31 = .ok (.ifCond .eq 12, 3) := by decide +kernel
theorem dX12_years_34 : decode cX12_years 34 = .ok (.iload_n 3, 1) := by decide +kernel
theorem dX12_years_35 : decode cX12_years 35 = .ok (.ifCond .lt 8, 3) := by decide +kernel
theorem dX12_years_38 : decode cX12_years 38 = .ok (.iload_n 3, 1) := by decide +kernel
theorem dX12_years_39 : decode cX12_years 39 = .ok (.iconst 2, 1) := by decide +kernel
theorem dX12_years_40 : decode cX12_years 40 = .ok (.if_icmp .le 5, 3) := by decide +kernel
theorem dX12_years_43 : decode cX12_years 43 = .ok (.iconst (-1), 1) := by decide +kernel
theorem dX12_years_44 : decode cX12_years 44 = .ok (.ireturn, 1) := by decide +kernel
theorem dX12_years_45 : decode cX12_years 45 = .ok (.aload_n 0, 1) := by decide +kernel
theorem dX12_years_46 : decode cX12_years 46 = .ok (.getfield 59, 3) := by decide +kernel
theorem dX12_years_49 : decode cX12_years 49 = .ok (.aload_n 0, 1) := by decide +kernel
theorem dX12_years_50 : decode cX12_years 50 = .ok (.getfield 28, 3) := by decide +kernel
theorem dX12_years_53 : decode cX12_years 53 = .ok (.aload_n 0, 1) := by decide +kernel
theorem dX12_years_54 : decode cX12_years 54 = .ok (.getfield 76, 3) := by decide +kernel
theorem dX12_years_57 : decode cX12_years 57 = .ok (.iload_n 1, 1) := by decide +kernel
theorem dX12_years_58 : decode cX12_years 58 = .ok (.iload_n 2, 1) := by decide +kernel
theorem dX12_years_59 : decode cX12_years 59 = .ok (.invokevirtual 237, 3) := by decide +kernel
theorem dX12_years_62 : decode cX12_years 62 = .ok (.iload_n 3, 1) := by decide +kernel
theorem dX12_years_63 : decode cX12_years 63 = .ok (.ifCond .ne 11, 3) := by decide +kernel
theorem dX12_years_66 : decode cX12_years 66 = .ok (.aload_n 0, 1) := by decide +kernel
theorem dX12_years_67 : decode cX12_years 67 = .ok (.getfield 59, 3) := by decide +kernel
theorem dX12_years_70 : decode cX12_years 70 = .ok (.getfield 241, 3) := by decide +kernel
theorem dX12_years_73 : decode cX12_years 73 = .ok (.ireturn, 1) := by decide +kernel
theorem dX12_years_74 : decode cX12_years 74 = .ok (.iload_n 3, 1) := by decide +kernel
theorem dX12_years_75 : decode cX12_years 75 = .ok (.iconst 1, 1) := by decide +kernel
theorem dX12_years_76 : decode cX12_years 76 = .ok (.if_icmp .ne 16, 3) := by decide +kernel
theorem dX12_years_79 : decode cX12_years 79 = .ok (.aload_n 0, 1) := by decide +kernel
theorem dX12_years_80 : decode cX12_years 80 = .ok (.getfield 59, 3) := by decide +kernel
theorem dX12_years_83 : decode cX12_years 83 = .ok (.getfield 244, 3) := by decide +kernel
theorem dX12_years_86 : decode cX12_years 86 = .ok (.invokevirtual 191, 3) := by decide +kernel
theorem dX12_years_89 : decode cX12_years 89 = .ok (.goto 23, 3) := by decide +kernel
theorem dX12_years_92 : decode cX12_years 92 = .ok (.aload_n 0, 1) := by decide +kernel
theorem dX12_years_93 : decode cX12_years 93 = .ok (.getfield 59, 3) := by decide +kernel
theorem dX12_years_96 : decode cX12_years 96 = .ok (.getfield 244, 3) := by decide +kernel
theorem dX12_years_99 : decode cX12_years 99 = .ok (.aload_n 0, 1) := by decide +kernel
theorem dX12_years_100 : decode cX12_years 100 = .ok (.getfield 59, 3) := by decide +kernel
theorem dX12_years_103 : decode cX12_years 103 = .ok (.getfield 244, 3) := by decide +kernel
theorem dX12_years_106 : decode cX12_years 106 = .ok (.getfield 188, 3) := by decide +kernel
theorem dX12_years_109 : decode cX12_years 109 = .ok (.invokevirtual 245, 3) := by decide +kernel
theorem dX12_years_112 : decode cX12_years 112 = .ok (.ireturn, 1) := by decide +kernel
theorem dX12_areThere_0 : decode cX12_areThere 0 = .ok (.iload_n 1, 1) := by decide +kernel
theorem dX12_areThere_1 : decode cX12_areThere 1 = .ok (.ifCond .lt 20, 3) := by decide +kernel
theorem dX12_areThere_4 : decode cX12_areThere 4 = .ok (.iload_n 1, 1) := by decide +kernel
theorem dX12_areThere_5 : decode cX12_areThere 5 = .ok (.iconst 1, 1) := by decide +kernel
theorem dX12_areThere_6 : decode cX12_areThere 6 = .ok (.aload_n 0, 1) := by decide +kernel
theorem dX12_areThere_7 : decode cX12_areThere 7 = .ok (.getfield 28, 3) := by decide +kernel
theorem dX12_areThere_10 : decode cX12_areThere 10 = .ok (.getfield 176, 3) := by decide +kernel
theorem dX12_areThere_13 : decode cX12_areThere 13 = .ok (.ishl, 1) := by decide +kernel
theorem dX12_areThere_14 : decode cX12_areThere 14 = .ok (.if_icmp .ge 7, 3) := by decide +kernel
theorem dX12_areThere_17 : decode cX12_areThere 17 = .ok (.iconst 1, 1) := by decide +kernel
theorem dX12_areThere_18 : decode cX12_areThere 18 = .ok (.goto 4, 3) := by decide +kernel
theorem dX12_areThere_21 : decode cX12_areThere 21 = .ok (.iconst 0, 1) := by decide +kernel
theorem dX12_areThere_22 : decode cX12_areThere 22 = .ok (.ireturn, 1) := by decide +kernel
set_option maxRecDepth 20000 in
theorem ggX12_tree_J6_bitCount_0f7a4 : GoodIn wsX12_tree wsJ6_bitCount_0f7a4 := goodIn_r _ [8, 9, 10, 11] (by decide +kernel) (by decide +kernel)
set_option maxRecDepth 20000 in
theorem gX12_tree_J6_bitCount_0f7a4 : GoodIn wsX12_tree (va_wsS RX12 248 yJ6_bitCount_0f7a4 wsJ6_bitCount_0f7a4) := goodIn_app (goodIn_of _ (by decide +kernel)) ggX12_tree_J6_bitCount_0f7a4
set_option maxRecDepth 20000 in
theorem ggX12_tree_X12_areThere : GoodIn wsX12_tree wsX12_areThere := goodIn_r _ [16, 2, 17, 57, 58, 59, 60, 61, 62, 63, 64, 65, 66, 67, 68, 69, 70, 71, 72, 73, 74, 75, 82, 83, 84, 85, 86, 87, 88, 89, 90, 91, 92, 93, 94] (by decide +kernel) (by decide +kernel)
set_option maxRecDepth 20000 in
theorem gX12_tree_X12_areThere : GoodIn wsX12_tree (wsV RX12 253 RX12 yX12_areThere wsX12_areThere) := goodIn_app (goodIn_of _ (by decide +kernel)) ggX12_tree_X12_areThere
set_option maxRecDepth 20000 in
theorem ggX12_tree_X9_grow : GoodIn wsX12_tree wsX9_grow := goodIn_r _ [22, 23, 24, 25, 26, 27, 28, 29, 30, 21, 31, 32, 33, 34, 35, 36, 37, 38, 39, 40, 41, 42, 43, 44, 45, 46, 47, 48, 49, 50, 51, 52, 6, 7, 8, 9, 10, 11, 76, 77, 78, 79, 80, 81, 82, 83, 84, 85, 86, 87, 88, 89, 90, 91, 92, 93, 94] (by decide +kernel) (by decide +kernel)
set_option maxRecDepth 20000 in
theorem gX12_tree_X9_grow : GoodIn wsX12_tree (wsV RX12 256 RX9 yX9_grow wsX9_grow) := goodIn_app (goodIn_of _ (by decide +kernel)) ggX12_tree_X9_grow
set_option maxRecDepth 20000 in
theorem ggX12_tree_X9_joinedTo : GoodIn wsX12_tree wsX9_joinedTo := goodIn_r _ [56, 23, 25, 37, 76, 77, 78, 79, 80, 81] (by decide +kernel) (by decide +kernel)
set_option maxRecDepth 20000 in
theorem gX12_tree_X9_joinedTo : GoodIn wsX12_tree (wsV RX12 266 RX9 yX9_joinedTo wsX9_joinedTo) := goodIn_app (goodIn_of _ (by decide +kernel)) ggX12_tree_X9_joinedTo
theorem dX12_tree_0 : decode cX12_tree 0 = .ok (.iload_n 1, 1) := by decide +kernel
theorem dX12_tree_1 : decode cX12_tree 1 = .ok (.invokestatic 248, 3) := by decide +kernel
theorem dX12_tree_4 : decode cX12_tree 4 = .ok (.istore_n 3, 1) := by decide +kernel
theorem dX12_tree_5 : decode cX12_tree 5 = .ok (.aload_n 0, 1) := by decide +kernel
theorem dX12_tree_6 : decode cX12_tree 6 = .ok (.iload_n 1, 1) := by decide +kernel
theorem dX12_tree_7 : decode cX12_tree 7 = .ok (.invokevirtual 253, 3) := by decide +kernel
theorem dX12_tree_10 : decode cX12_tree 10 = .ok (.ifCond .eq 23, 3) := by decide +kernel
theorem dX12_tree_13 : decode cX12_tree 13 = .ok (.iload_n 3, 1) := by decide +kernel
theorem dX12_tree_14 : decode cX12_tree 14 = .ok (.iconst 1, 1) := by decide +kernel
theorem dX12_tree_15 : decode cX12_tree 15 = .ok (.if_icmp .lt 18, 3) := by decide +kernel
theorem dX12_tree_18 : decode cX12_tree 18 = .ok (.iload_n 3, 1) := by decide +kernel
theorem dX12_tree_19 : decode cX12_tree 19 = .ok (.bipush 6, 2) := by decide +kernel
theorem dX12_tree_21 : decode cX12_tree 21 = .ok (.if_icmp .gt 12, 3) := by decide +kernel
theorem dX12_tree_24 : decode cX12_tree 24 = .ok (.iload_n 2, 1) := by decide +kernel
theorem dX12_tree_25 : decode cX12_tree 25 = .ok (.ifCond .lt 8, 3) := by decide +kernel
theorem dX12_tree_28 : decode cX12_tree 28 = .ok (.iload_n 2, 1) := by decide +kernel
theorem dX12_tree_29 : decode cX12_tree 29 = .ok (.iload_n 3, 1) := by decide +kernel
theorem dX12_tree_30 : decode cX12_tree 30 = .ok (.if_icmp .le 5, 3) := by decide +kernel
theorem dX12_tree_33 : decode cX12_tree 33 = .ok (.iconst (-1), 1) := by decide +kernel
theorem dX12_tree_34 : decode cX12_tree 34 = .ok (.ireturn, 1) := by decide +kernel
theorem dX12_tree_35 : decode cX12_tree 35 = .ok (.aload_n 0, 1) := by decide +kernel
theorem dX12_tree_36 : decode cX12_tree 36 = .ok (.getfield 45, 3) := by decide +kernel
theorem dX12_tree_39 : decode cX12_tree 39 = .ok (.aload_n 0, 1) := by decide +kernel
theorem dX12_tree_40 : decode cX12_tree 40 = .ok (.getfield 28, 3) := by decide +kernel
theorem dX12_tree_43 : decode cX12_tree 43 = .ok (.iload_n 1, 1) := by decide +kernel
theorem dX12_tree_44 : decode cX12_tree 44 = .ok (.invokevirtual 256, 3) := by decide +kernel
theorem dX12_tree_47 : decode cX12_tree 47 = .ok (.iload_n 2, 1) := by decide +kernel
theorem dX12_tree_48 : decode cX12_tree 48 = .ok (.ifCond .ne 11, 3) := by decide +kernel
theorem dX12_tree_51 : decode cX12_tree 51 = .ok (.aload_n 0, 1) := by decide +kernel
theorem dX12_tree_52 : decode cX12_tree 52 = .ok (.getfield 45, 3) := by decide +kernel
theorem dX12_tree_55 : decode cX12_tree 55 = .ok (.getfield 260, 3) := by decide +kernel
theorem dX12_tree_58 : decode cX12_tree 58 = .ok (.ireturn, 1) := by decide +kernel
theorem dX12_tree_59 : decode cX12_tree 59 = .ok (.iload_n 2, 1) := by decide +kernel
theorem dX12_tree_60 : decode cX12_tree 60 = .ok (.iconst 1, 1) := by decide +kernel
theorem dX12_tree_61 : decode cX12_tree 61 = .ok (.if_icmp .ne 13, 3) := by decide +kernel
theorem dX12_tree_64 : decode cX12_tree 64 = .ok (.aload_n 0, 1) := by decide +kernel
theorem dX12_tree_65 : decode cX12_tree 65 = .ok (.getfield 45, 3) := by decide +kernel
theorem dX12_tree_68 : decode cX12_tree 68 = .ok (.getfield 263, 3) := by decide +kernel
theorem dX12_tree_71 : decode cX12_tree 71 = .ok (.goto 13, 3) := by decide +kernel
theorem dX12_tree_74 : decode cX12_tree 74 = .ok (.aload_n 0, 1) := by decide +kernel
theorem dX12_tree_75 : decode cX12_tree 75 = .ok (.getfield 45, 3) := by decide +kernel
theorem dX12_tree_78 : decode cX12_tree 78 = .ok (.iload_n 2, 1) := by decide +kernel
theorem dX12_tree_79 : decode cX12_tree 79 = .ok (.iconst 1, 1) := by decide +kernel
theorem dX12_tree_80 : decode cX12_tree 80 = .ok (.isub, 1) := by decide +kernel
theorem dX12_tree_81 : decode cX12_tree 81 = .ok (.invokevirtual 266, 3) := by decide +kernel
theorem dX12_tree_84 : decode cX12_tree 84 = .ok (.ireturn, 1) := by decide +kernel
set_option maxRecDepth 20000 in
theorem ggX12_kin_X3_isThere : GoodIn wsX12_kin wsX3_isThere := goodIn_r _ [8, 9, 29, 30, 31, 32, 33, 34, 35, 36, 37, 38, 39, 40, 41] (by decide +kernel) (by decide +kernel)
set_option maxRecDepth 20000 in
theorem gX12_kin_X3_isThere : GoodIn wsX12_kin (wsV RX12 130 RX3 yX3_isThere wsX3_isThere) := goodIn_app (goodIn_of _ (by decide +kernel)) ggX12_kin_X3_isThere
theorem dX12_kin_0 : decode cX12_kin 0 = .ok (.aload_n 0, 1) := by decide +kernel
theorem dX12_kin_1 : decode cX12_kin 1 = .ok (.getfield 28, 3) := by decide +kernel
theorem dX12_kin_4 : decode cX12_kin 4 = .ok (.iload_n 1, 1) := by decide +kernel
theorem dX12_kin_5 : decode cX12_kin 5 = .ok (.invokevirtual 130, 3) := by decide +kernel
theorem dX12_kin_8 : decode cX12_kin 8 = .ok (.ifCond .ne 5, 3) := by decide +kernel
theorem dX12_kin_11 : decode cX12_kin 11 = .ok (.iconst (-1), 1) := by decide +kernel
theorem dX12_kin_12 : decode cX12_kin 12 = .ok (.ireturn, 1) := by decide +kernel
theorem dX12_kin_13 : decode cX12_kin 13 = .ok (.iconst 1, 1) := by decide +kernel
theorem dX12_kin_14 : decode cX12_kin 14 = .ok (.iload_n 1, 1) := by decide +kernel
theorem dX12_kin_15 : decode cX12_kin 15 = .ok (.ishl, 1) := by decide +kernel
theorem dX12_kin_16 : decode cX12_kin 16 = .ok (.istore_n 2, 1) := by decide +kernel
theorem dX12_kin_17 : decode cX12_kin 17 = .ok (.iload_n 1, 1) := by decide +kernel
theorem dX12_kin_18 : decode cX12_kin 18 = .ok (.iconst 1, 1) := by decide +kernel
theorem dX12_kin_19 : decode cX12_kin 19 = .ok (.iadd, 1) := by decide +kernel
theorem dX12_kin_20 : decode cX12_kin 20 = .ok (.istore_n 3, 1) := by decide +kernel
theorem dX12_kin_21 : decode cX12_kin 21 = .ok (.iload_n 3, 1) := by decide +kernel
theorem dX12_kin_22 : decode cX12_kin 22 = .ok (.aload_n 0, 1) := by decide +kernel
theorem dX12_kin_23 : decode cX12_kin 23 = .ok (.getfield 28, 3) := by decide +kernel
theorem dX12_kin_26 : decode cX12_kin 26 = .ok (.getfield 176, 3) := by decide +kernel
theorem dX12_kin_29 : decode cX12_kin 29 = .ok (.if_icmp .ge 31, 3) := by decide +kernel
theorem dX12_kin_32 : decode cX12_kin 32 = .ok (.iload_n 2, 1) := by decide +kernel
theorem dX12_kin_33 : decode cX12_kin 33 = .ok (.aload_n 0, 1) := by decide +kernel
theorem dX12_kin_34 : decode cX12_kin 34 = .ok (.getfield 28, 3) := by decide +kernel
