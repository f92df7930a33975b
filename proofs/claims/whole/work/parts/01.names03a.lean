set_option maxRecDepth 20000 in
theorem ggX1_init_X3_init : GoodIn wsX1_init wsX3_init := goodIn_r _ [24, 25, 2, 3, 8, 26, 27, 28, 29, 30, 31, 32, 33, 34, 35, 36, 37, 38, 39, 40, 41, 15, 42, 43, 44, 45, 46, 60, 61, 62, 63, 64, 65, 66, 67, 68, 69, 70, 71, 72] (by decide +kernel) (by decide +kernel)
set_option maxRecDepth 20000 in
theorem gX1_init_X3_init : GoodIn wsX1_init (wsX3_init) := ggX1_init_X3_init
theorem dX1_init_0 : decode cX1_init 0 = .ok (.aload_n 0, 1) := by decide +kernel
theorem dX1_init_1 : decode cX1_init 1 = .ok (.invokespecial 3, 3) := by decide +kernel
theorem dX1_init_4 : decode cX1_init 4 = .ok (.aload_n 0, 1) := by decide +kernel
theorem dX1_init_5 : decode cX1_init 5 = .ok (.bipush 8, 2) := by decide +kernel
theorem dX1_init_7 : decode cX1_init 7 = .ok (.newarray .long, 2) := by decide +kernel
theorem dX1_init_9 : decode cX1_init 9 = .ok (.putfield 9, 3) := by decide +kernel
theorem dX1_init_12 : decode cX1_init 12 = .ok (.aload_n 0, 1) := by decide +kernel
theorem dX1_init_13 : decode cX1_init 13 = .ok (.iconst 5, 1) := by decide +kernel
theorem dX1_init_14 : decode cX1_init 14 = .ok (.newarray .long, 2) := by decide +kernel
theorem dX1_init_16 : decode cX1_init 16 = .ok (.putfield 15, 3) := by decide +kernel
theorem dX1_init_19 : decode cX1_init 19 = .ok (.aload_n 0, 1) := by decide +kernel
theorem dX1_init_20 : decode cX1_init 20 = .ok (.iconst 4, 1) := by decide +kernel
theorem dX1_init_21 : decode cX1_init 21 = .ok (.newarray .long, 2) := by decide +kernel
theorem dX1_init_23 : decode cX1_init 23 = .ok (.putfield 18, 3) := by decide +kernel
theorem dX1_init_26 : decode cX1_init 26 = .ok (.aload_n 0, 1) := by decide +kernel
theorem dX1_init_27 : decode cX1_init 27 = .ok (.iconst 5, 1) := by decide +kernel
theorem dX1_init_28 : decode cX1_init 28 = .ok (.newarray .int, 2) := by decide +kernel
theorem dX1_init_30 : decode cX1_init 30 = .ok (.putfield 21, 3) := by decide +kernel
theorem dX1_init_33 : decode cX1_init 33 = .ok (.aload_n 0, 1) := by decide +kernel
theorem dX1_init_34 : decode cX1_init 34 = .ok (.iconst 5, 1) := by decide +kernel
theorem dX1_init_35 : decode cX1_init 35 = .ok (.newarray .int, 2) := by decide +kernel
theorem dX1_init_37 : decode cX1_init 37 = .ok (.putfield 25, 3) := by decide +kernel
theorem dX1_init_40 : decode cX1_init 40 = .ok (.aload_n 0, 1) := by decide +kernel
theorem dX1_init_41 : decode cX1_init 41 = .ok (.iconst 5, 1) := by decide +kernel
theorem dX1_init_42 : decode cX1_init 42 = .ok (.newarray .int, 2) := by decide +kernel
theorem dX1_init_44 : decode cX1_init 44 = .ok (.putfield 28, 3) := by decide +kernel
theorem dX1_init_47 : decode cX1_init 47 = .ok (.aload_n 0, 1) := by decide +kernel
theorem dX1_init_48 : decode cX1_init 48 = .ok (.iconst 4, 1) := by decide +kernel
theorem dX1_init_49 : decode cX1_init 49 = .ok (.newarray .int, 2) := by decide +kernel
theorem dX1_init_51 : decode cX1_init 51 = .ok (.putfield 31, 3) := by decide +kernel
theorem dX1_init_54 : decode cX1_init 54 = .ok (.aload_n 0, 1) := by decide +kernel
theorem dX1_init_55 : decode cX1_init 55 = .ok (.new 34, 3) := by decide +kernel
theorem dX1_init_58 : decode cX1_init 58 = .ok (.dup, 1) := by decide +kernel
theorem dX1_init_59 : decode cX1_init 59 = .ok (.invokespecial 36, 3) := by decide +kernel
theorem dX1_init_62 : decode cX1_init 62 = .ok (.putfield 37, 3) := by decide +kernel
theorem dX1_init_65 : decode cX1_init 65 = .ok (.aload_n 0, 1) := by decide +kernel
theorem dX1_init_66 : decode cX1_init 66 = .ok (.iconst 0, 1) := by decide +kernel
theorem dX1_init_67 : decode cX1_init 67 = .ok (.putfield 41, 3) := by decide +kernel
theorem dX1_init_70 : decode cX1_init 70 = .ok (.aload_n 0, 1) := by decide +kernel
theorem dX1_init_71 : decode cX1_init 71 = .ok (.iconst 0, 1) := by decide +kernel
theorem dX1_init_72 : decode cX1_init 72 = .ok (.putfield 45, 3) := by decide +kernel
theorem dX1_init_75 : decode cX1_init 75 = .ok (.aload_n 0, 1) := by decide +kernel
theorem dX1_init_76 : decode cX1_init 76 = .ok (.iconst 0, 1) := by decide +kernel
theorem dX1_init_77 : decode cX1_init 77 = .ok (.putfield 48, 3) := by decide +kernel
theorem dX1_init_80 : decode cX1_init 80 = .ok (.aload_n 0, 1) := by decide +kernel
theorem dX1_init_81 : decode cX1_init 81 = .ok (.aconst_null, 1) := by decide +kernel
theorem dX1_init_82 : decode cX1_init 82 = .ok (.putfield 51, 3) := by decide +kernel
theorem dX1_init_85 : decode cX1_init 85 = .ok (.aload_n 0, 1) := by decide +kernel
theorem dX1_init_86 : decode cX1_init 86 = .ok (.aconst_null, 1) := by decide +kernel
theorem dX1_init_87 : decode cX1_init 87 = .ok (.putfield 55, 3) := by decide +kernel
theorem dX1_init_90 : decode cX1_init 90 = .ok (.return_, 1) := by decide +kernel
set_option maxRecDepth 20000 in
theorem ggX1_clear_X3_clear : GoodIn wsX1_clear wsX3_clear := goodIn_r _ [11, 12, 13, 14, 15, 16, 17, 18, 19, 20, 21, 22, 23, 24, 25, 26, 27, 28, 42, 43, 44, 45, 46, 47, 48, 49, 50, 51, 52, 53, 54] (by decide +kernel) (by decide +kernel)
set_option maxRecDepth 20000 in
theorem gX1_clear_X3_clear : GoodIn wsX1_clear (wsV RX1 58 RX3 yX3_clear wsX3_clear) := goodIn_app (goodIn_of _ (by decide +kernel)) ggX1_clear_X3_clear
theorem dX1_clear_0 : decode cX1_clear 0 = .ok (.aload_n 0, 1) := by decide +kernel
theorem dX1_clear_1 : decode cX1_clear 1 = .ok (.iconst 0, 1) := by decide +kernel
theorem dX1_clear_2 : decode cX1_clear 2 = .ok (.putfield 41, 3) := by decide +kernel
theorem dX1_clear_5 : decode cX1_clear 5 = .ok (.aload_n 0, 1) := by decide +kernel
theorem dX1_clear_6 : decode cX1_clear 6 = .ok (.iconst 0, 1) := by decide +kernel
theorem dX1_clear_7 : decode cX1_clear 7 = .ok (.putfield 45, 3) := by decide +kernel
theorem dX1_clear_10 : decode cX1_clear 10 = .ok (.aload_n 0, 1) := by decide +kernel
theorem dX1_clear_11 : decode cX1_clear 11 = .ok (.iconst 0, 1) := by decide +kernel
theorem dX1_clear_12 : decode cX1_clear 12 = .ok (.putfield 48, 3) := by decide +kernel
theorem dX1_clear_15 : decode cX1_clear 15 = .ok (.aload_n 0, 1) := by decide +kernel
theorem dX1_clear_16 : decode cX1_clear 16 = .ok (.aconst_null, 1) := by decide +kernel
theorem dX1_clear_17 : decode cX1_clear 17 = .ok (.putfield 51, 3) := by decide +kernel
theorem dX1_clear_20 : decode cX1_clear 20 = .ok (.aload_n 0, 1) := by decide +kernel
theorem dX1_clear_21 : decode cX1_clear 21 = .ok (.aconst_null, 1) := by decide +kernel
theorem dX1_clear_22 : decode cX1_clear 22 = .ok (.putfield 55, 3) := by decide +kernel
theorem dX1_clear_25 : decode cX1_clear 25 = .ok (.aload_n 0, 1) := by decide +kernel
theorem dX1_clear_26 : decode cX1_clear 26 = .ok (.getfield 37, 3) := by decide +kernel
theorem dX1_clear_29 : decode cX1_clear 29 = .ok (.invokevirtual 58, 3) := by decide +kernel
theorem dX1_clear_32 : decode cX1_clear 32 = .ok (.return_, 1) := by decide +kernel
theorem dX1_hasSpot_0 : decode cX1_hasSpot 0 = .ok (.iload_n 1, 1) := by decide +kernel
theorem dX1_hasSpot_1 : decode cX1_hasSpot 1 = .ok (.ifCond .lt 15, 3) := by decide +kernel
theorem dX1_hasSpot_4 : decode cX1_hasSpot 4 = .ok (.iload_n 1, 1) := by decide +kernel
theorem dX1_hasSpot_5 : decode cX1_hasSpot 5 = .ok (.aload_n 0, 1) := by decide +kernel
theorem dX1_hasSpot_6 : decode cX1_hasSpot 6 = .ok (.getfield 41, 3) := by decide +kernel
theorem dX1_hasSpot_9 : decode cX1_hasSpot 9 = .ok (.if_icmp .ge 7, 3) := by decide +kernel
theorem dX1_hasSpot_12 : decode cX1_hasSpot 12 = .ok (.iconst 1, 1) := by decide +kernel
theorem dX1_hasSpot_13 : decode cX1_hasSpot 13 = .ok (.goto 4, 3) := by decide +kernel
theorem dX1_hasSpot_16 : decode cX1_hasSpot 16 = .ok (.iconst 0, 1) := by decide +kernel
theorem dX1_hasSpot_17 : decode cX1_hasSpot 17 = .ok (.ireturn, 1) := by decide +kernel
theorem dX1_hasThief_0 : decode cX1_hasThief 0 = .ok (.iload_n 1, 1) := by decide +kernel
theorem dX1_hasThief_1 : decode cX1_hasThief 1 = .ok (.ifCond .lt 15, 3) := by decide +kernel
theorem dX1_hasThief_4 : decode cX1_hasThief 4 = .ok (.iload_n 1, 1) := by decide +kernel
theorem dX1_hasThief_5 : decode cX1_hasThief 5 = .ok (.aload_n 0, 1) := by decide +kernel
theorem dX1_hasThief_6 : decode cX1_hasThief 6 = .ok (.getfield 45, 3) := by decide +kernel
theorem dX1_hasThief_9 : decode cX1_hasThief 9 = .ok (.if_icmp .ge 7, 3) := by decide +kernel
theorem dX1_hasThief_12 : decode cX1_hasThief 12 = .ok (.iconst 1, 1) := by decide +kernel
theorem dX1_hasThief_13 : decode cX1_hasThief 13 = .ok (.goto 4, 3) := by decide +kernel
theorem dX1_hasThief_16 : decode cX1_hasThief 16 = .ok (.iconst 0, 1) := by decide +kernel
theorem dX1_hasThief_17 : decode cX1_hasThief 17 = .ok (.ireturn, 1) := by decide +kernel
theorem dX1_addSpot_0 : decode cX1_addSpot 0 = .ok (.aload_n 0, 1) := by decide +kernel
theorem dX1_addSpot_1 : decode cX1_addSpot 1 = .ok (.getfield 41, 3) := by decide +kernel
theorem dX1_addSpot_4 : decode cX1_addSpot 4 = .ok (.bipush 8, 2) := by decide +kernel
theorem dX1_addSpot_6 : decode cX1_addSpot 6 = .ok (.if_icmp .ge 23, 3) := by decide +kernel
theorem dX1_addSpot_9 : decode cX1_addSpot 9 = .ok (.aload_n 0, 1) := by decide +kernel
theorem dX1_addSpot_10 : decode cX1_addSpot 10 = .ok (.getfield 9, 3) := by decide +kernel
theorem dX1_addSpot_13 : decode cX1_addSpot 13 = .ok (.aload_n 0, 1) := by decide +kernel
theorem dX1_addSpot_14 : decode cX1_addSpot 14 = .ok (.getfield 41, 3) := by decide +kernel
theorem dX1_addSpot_17 : decode cX1_addSpot 17 = .ok (.lload_n 1, 1) := by decide +kernel
theorem dX1_addSpot_18 : decode cX1_addSpot 18 = .ok (.lastore, 1) := by decide +kernel
theorem dX1_addSpot_19 : decode cX1_addSpot 19 = .ok (.aload_n 0, 1) := by decide +kernel
theorem dX1_addSpot_20 : decode cX1_addSpot 20 = .ok (.dup, 1) := by decide +kernel
theorem dX1_addSpot_21 : decode cX1_addSpot 21 = .ok (.getfield 41, 3) := by decide +kernel
theorem dX1_addSpot_24 : decode cX1_addSpot 24 = .ok (.iconst 1, 1) := by decide +kernel
theorem dX1_addSpot_25 : decode cX1_addSpot 25 = .ok (.iadd, 1) := by decide +kernel
theorem dX1_addSpot_26 : decode cX1_addSpot 26 = .ok (.putfield 41, 3) := by decide +kernel
theorem dX1_addSpot_29 : decode cX1_addSpot 29 = .ok (.return_, 1) := by decide +kernel
theorem dX1_addThief_0 : decode cX1_addThief 0 = .ok (.aload_n 0, 1) := by decide +kernel
theorem dX1_addThief_1 : decode cX1_addThief 1 = .ok (.getfield 45, 3) := by decide +kernel
theorem dX1_addThief_4 : decode cX1_addThief 4 = .ok (.iconst 5, 1) := by decide +kernel
theorem dX1_addThief_5 : decode cX1_addThief 5 = .ok (.if_icmp .ge 69, 3) := by decide +kernel
theorem dX1_addThief_8 : decode cX1_addThief 8 = .ok (.aload_n 0, 1) := by decide +kernel
theorem dX1_addThief_9 : decode cX1_addThief 9 = .ok (.getfield 15, 3) := by decide +kernel
theorem dX1_addThief_12 : decode cX1_addThief 12 = .ok (.aload_n 0, 1) := by decide +kernel
theorem dX1_addThief_13 : decode cX1_addThief 13 = .ok (.getfield 45, 3) := by decide +kernel
theorem dX1_addThief_16 : decode cX1_addThief 16 = .ok (.lload_n 1, 1) := by decide +kernel
theorem dX1_addThief_17 : decode cX1_addThief 17 = .ok (.lastore, 1) := by decide +kernel
theorem dX1_addThief_18 : decode cX1_addThief 18 = .ok (.aload_n 0, 1) := by decide +kernel
theorem dX1_addThief_19 : decode cX1_addThief 19 = .ok (.getfield 21, 3) := by decide +kernel
theorem dX1_addThief_22 : decode cX1_addThief 22 = .ok (.aload_n 0, 1) := by decide +kernel
theorem dX1_addThief_23 : decode cX1_addThief 23 = .ok (.getfield 45, 3) := by decide +kernel
theorem dX1_addThief_26 : decode cX1_addThief 26 = .ok (.iload_n 3, 1) := by decide +kernel
theorem dX1_addThief_27 : decode cX1_addThief 27 = .ok (.iastore, 1) := by decide +kernel
theorem dX1_addThief_28 : decode cX1_addThief 28 = .ok (.aload_n 0, 1) := by decide +kernel
theorem dX1_addThief_29 : decode cX1_addThief 29 = .ok (.getfield 25, 3) := by decide +kernel
theorem dX1_addThief_32 : decode cX1_addThief 32 = .ok (.aload_n 0, 1) := by decide +kernel
theorem dX1_addThief_33 : decode cX1_addThief 33 = .ok (.getfield 45, 3) := by decide +kernel
theorem dX1_addThief_36 : decode cX1_addThief 36 = .ok (.iload 4, 2) := by decide +kernel
theorem dX1_addThief_38 : decode cX1_addThief 38 = .ok (.iastore, 1) := by decide +kernel
theorem dX1_addThief_39 : decode cX1_addThief 39 = .ok (.aload_n 0, 1) := by decide +kernel
theorem dX1_addThief_40 : decode cX1_addThief 40 = .ok (.getfield 28, 3) := by decide +kernel
theorem dX1_addThief_43 : decode cX1_addThief 43 = .ok (.aload_n 0, 1) := by decide +kernel
theorem dX1_addThief_44 : decode cX1_addThief 44 = .ok (.getfield 45, 3) := by decide +kernel
theorem dX1_addThief_47 : decode cX1_addThief 47 = .ok (.iload 6, 2) := by decide +kernel
theorem dX1_addThief_49 : decode cX1_addThief 49 = .ok (.iastore, 1) := by decide +kernel
theorem dX1_addThief_50 : decode cX1_addThief 50 = .ok (.aload_n 0, 1) := by decide +kernel
theorem dX1_addThief_51 : decode cX1_addThief 51 = .ok (.getfield 37, 3) := by decide +kernel
theorem dX1_addThief_54 : decode cX1_addThief 54 = .ok (.getfield 61, 3) := by decide +kernel
theorem dX1_addThief_57 : decode cX1_addThief 57 = .ok (.aload_n 0, 1) := by decide +kernel
theorem dX1_addThief_58 : decode cX1_addThief 58 = .ok (.getfield 45, 3) := by decide +kernel
theorem dX1_addThief_61 : decode cX1_addThief 61 = .ok (.iload 5, 2) := by decide +kernel
theorem dX1_addThief_63 : decode cX1_addThief 63 = .ok (.iastore, 1) := by decide +kernel
theorem dX1_addThief_64 : decode cX1_addThief 64 = .ok (.aload_n 0, 1) := by decide +kernel
theorem dX1_addThief_65 : decode cX1_addThief 65 = .ok (.dup, 1) := by decide +kernel
theorem dX1_addThief_66 : decode cX1_addThief 66 = .ok (.getfield 45, 3) := by decide +kernel
theorem dX1_addThief_69 : decode cX1_addThief 69 = .ok (.iconst 1, 1) := by decide +kernel
theorem dX1_addThief_70 : decode cX1_addThief 70 = .ok (.iadd, 1) := by decide +kernel
theorem dX1_addThief_71 : decode cX1_addThief 71 = .ok (.putfield 45, 3) := by decide +kernel
theorem dX1_addThief_74 : decode cX1_addThief 74 = .ok (.return_, 1) := by decide +kernel
theorem dX1_addExpert_0 : decode cX1_addExpert 0 = .ok (.aload_n 0, 1) := by decide +kernel
theorem dX1_addExpert_1 : decode cX1_addExpert 1 = .ok (.getfield 48, 3) := by decide +kernel
theorem dX1_addExpert_4 : decode cX1_addExpert 4 = .ok (.iconst 4, 1) := by decide +kernel
theorem dX1_addExpert_5 : decode cX1_addExpert 5 = .ok (.if_icmp .ge 33, 3) := by decide +kernel
theorem dX1_addExpert_8 : decode cX1_addExpert 8 = .ok (.aload_n 0, 1) := by decide +kernel
theorem dX1_addExpert_9 : decode cX1_addExpert 9 = .ok (.getfield 18, 3) := by decide +kernel
theorem dX1_addExpert_12 : decode cX1_addExpert 12 = .ok (.aload_n 0, 1) := by decide +kernel
theorem dX1_addExpert_13 : decode cX1_addExpert 13 = .ok (.getfield 48, 3) := by decide +kernel
theorem dX1_addExpert_16 : decode cX1_addExpert 16 = .ok (.lload_n 1, 1) := by decide +kernel
theorem dX1_addExpert_17 : decode cX1_addExpert 17 = .ok (.lastore, 1) := by decide +kernel
theorem dX1_addExpert_18 : decode cX1_addExpert 18 = .ok (.aload_n 0, 1) := by decide +kernel
theorem dX1_addExpert_19 : decode cX1_addExpert 19 = .ok (.getfield 31, 3) := by decide +kernel
theorem dX1_addExpert_22 : decode cX1_addExpert 22 = .ok (.aload_n 0, 1) := by decide +kernel
theorem dX1_addExpert_23 : decode cX1_addExpert 23 = .ok (.getfield 48, 3) := by decide +kernel
theorem dX1_addExpert_26 : decode cX1_addExpert 26 = .ok (.iload_n 3, 1) := by decide +kernel
theorem dX1_addExpert_27 : decode cX1_addExpert 27 = .ok (.iastore, 1) := by decide +kernel
theorem dX1_addExpert_28 : decode cX1_addExpert 28 = .ok (.aload_n 0, 1) := by decide +kernel
theorem dX1_addExpert_29 : decode cX1_addExpert 29 = .ok (.dup, 1) := by decide +kernel
theorem dX1_addExpert_30 : decode cX1_addExpert 30 = .ok (.getfield 48, 3) := by decide +kernel
theorem dX1_addExpert_33 : decode cX1_addExpert 33 = .ok (.iconst 1, 1) := by decide +kernel
theorem dX1_addExpert_34 : decode cX1_addExpert 34 = .ok (.iadd, 1) := by decide +kernel
theorem dX1_addExpert_35 : decode cX1_addExpert 35 = .ok (.putfield 48, 3) := by decide +kernel
theorem dX1_addExpert_38 : decode cX1_addExpert 38 = .ok (.return_, 1) := by decide +kernel
theorem dX1_placeOf_0 : decode cX1_placeOf 0 = .ok (.iconst 0, 1) := by decide +kernel
theorem dX1_placeOf_1 : decode cX1_placeOf 1 = .ok (.istore 4, 2) := by decide +kernel
theorem dX1_placeOf_3 : decode cX1_placeOf 3 = .ok (.iload 4, 2) := by decide +kernel
theorem dX1_placeOf_5 : decode cX1_placeOf 5 = .ok (.iload_n 3, 1) := by decide +kernel
theorem dX1_placeOf_6 : decode cX1_placeOf 6 = .ok (.if_icmp .ge 28, 3) := by decide +kernel
theorem dX1_placeOf_9 : decode cX1_placeOf 9 = .ok (.iload 4, 2) := by decide +kernel
theorem dX1_placeOf_11 : decode cX1_placeOf 11 = .ok (.aload_n 2, 1) := by decide +kernel
theorem dX1_placeOf_12 : decode cX1_placeOf 12 = .ok (.arraylength, 1) := by decide +kernel
theorem dX1_placeOf_13 : decode cX1_placeOf 13 = .ok (.if_icmp .ge 21, 3) := by decide +kernel
theorem dX1_placeOf_16 : decode cX1_placeOf 16 = .ok (.aload_n 2, 1) := by decide +kernel
theorem dX1_placeOf_17 : decode cX1_placeOf 17 = .ok (.iload 4, 2) := by decide +kernel
theorem dX1_placeOf_19 : decode cX1_placeOf 19 = .ok (.laload, 1) := by decide +kernel
theorem dX1_placeOf_20 : decode cX1_placeOf 20 = .ok (.lload_n 0, 1) := by decide +kernel
theorem dX1_placeOf_21 : decode cX1_placeOf 21 = .ok (.lcmp, 1) := by decide +kernel
theorem dX1_placeOf_22 : decode cX1_placeOf 22 = .ok (.ifCond .ne 6, 3) := by decide +kernel
theorem dX1_placeOf_25 : decode cX1_placeOf 25 = .ok (.iload 4, 2) := by decide +kernel
theorem dX1_placeOf_27 : decode cX1_placeOf 27 = .ok (.ireturn, 1) := by decide +kernel
theorem dX1_placeOf_28 : decode cX1_placeOf 28 = .ok (.iinc 4 1, 3) := by decide +kernel
theorem dX1_placeOf_31 : decode cX1_placeOf 31 = .ok (.goto (-28), 3) := by decide +kernel
theorem dX1_placeOf_34 : decode cX1_placeOf 34 = .ok (.iconst (-1), 1) := by decide +kernel
theorem dX1_placeOf_35 : decode cX1_placeOf 35 = .ok (.ireturn, 1) := by decide +kernel
set_option maxRecDepth 20000 in
theorem ggX1_isTold_X1_placeOf : GoodIn wsX1_isTold wsX1_placeOf := goodIn_r _ [10] (by decide +kernel) (by decide +kernel)
set_option maxRecDepth 20000 in
theorem gX1_isTold_X1_placeOf : GoodIn wsX1_isTold (va_wsS RX1 64 yX1_placeOf wsX1_placeOf) := goodIn_app (goodIn_of _ (by decide +kernel)) ggX1_isTold_X1_placeOf
theorem dX1_isTold_0 : decode cX1_isTold 0 = .ok (.lload_n 1, 1) := by decide +kernel
theorem dX1_isTold_1 : decode cX1_isTold 1 = .ok (.aload_n 0, 1) := by decide +kernel
theorem dX1_isTold_2 : decode cX1_isTold 2 = .ok (.getfield 9, 3) := by decide +kernel
theorem dX1_isTold_5 : decode cX1_isTold 5 = .ok (.aload_n 0, 1) := by decide +kernel
theorem dX1_isTold_6 : decode cX1_isTold 6 = .ok (.getfield 41, 3) := by decide +kernel
theorem dX1_isTold_9 : decode cX1_isTold 9 = .ok (.invokestatic 64, 3) := by decide +kernel
theorem dX1_isTold_12 : decode cX1_isTold 12 = .ok (.iconst (-1), 1) := by decide +kernel
theorem dX1_isTold_13 : decode cX1_isTold 13 = .ok (.if_icmp .ne 35, 3) := by decide +kernel
theorem dX1_isTold_16 : decode cX1_isTold 16 = .ok (.lload_n 1, 1) := by decide +kernel
theorem dX1_isTold_17 : decode cX1_isTold 17 = .ok (.aload_n 0, 1) := by decide +kernel
theorem dX1_isTold_18 : decode cX1_isTold 18 = .ok (.getfield 15, 3) := by decide +kernel
theorem dX1_isTold_21 : decode cX1_isTold 21 = .ok (.aload_n 0, 1) := by decide +kernel
theorem dX1_isTold_22 : decode cX1_isTold 22 = .ok (.getfield 45, 3) := by decide +kernel
theorem dX1_isTold_25 : decode cX1_isTold 25 = .ok (.invokestatic 64, 3) := by decide +kernel
theorem dX1_isTold_28 : decode cX1_isTold 28 = .ok (.iconst (-1), 1) := by decide +kernel
theorem dX1_isTold_29 : decode cX1_isTold 29 = .ok (.if_icmp .ne 19, 3) := by decide +kernel
theorem dX1_isTold_32 : decode cX1_isTold 32 = .ok (.lload_n 1, 1) := by decide +kernel
theorem dX1_isTold_33 : decode cX1_isTold 33 = .ok (.aload_n 0, 1) := by decide +kernel
theorem dX1_isTold_34 : decode cX1_isTold 34 = .ok (.getfield 18, 3) := by decide +kernel
theorem dX1_isTold_37 : decode cX1_isTold 37 = .ok (.aload_n 0, 1) := by decide +kernel
theorem dX1_isTold_38 : decode cX1_isTold 38 = .ok (.getfield 48, 3) := by decide +kernel
theorem dX1_isTold_41 : decode cX1_isTold 41 = .ok (.invokestatic 64, 3) := by decide +kernel
theorem dX1_isTold_44 : decode cX1_isTold 44 = .ok (.iconst (-1), 1) := by decide +kernel
theorem dX1_isTold_45 : decode cX1_isTold 45 = .ok (.if_icmp .eq 7, 3) := by decide +kernel
theorem dX1_isTold_48 : decode cX1_isTold 48 = .ok (.iconst 1, 1) := by decide +kernel
theorem dX1_isTold_49 : decode cX1_isTold 49 = .ok (.goto 4, 3) := by decide +kernel
theorem dX1_isTold_52 : decode cX1_isTold 52 = .ok (.iconst 0, 1) := by decide +kernel
theorem dX1_isTold_53 : decode cX1_isTold 53 = .ok (.ireturn, 1) := by decide +kernel
set_option maxRecDepth 20000 in
theorem ggX1_spotAt_X1_toldAt : GoodIn wsX1_spotAt wsX1_toldAt := goodIn_r _ [6, 7, 8, 9, 10, 11, 12, 13, 14, 15, 16, 17, 18, 19, 20, 21, 22, 23, 24, 25, 26, 5, 27, 41, 42, 43, 44, 45, 46, 47, 48] (by decide +kernel) (by decide +kernel)
set_option maxRecDepth 20000 in
theorem gX1_spotAt_X1_toldAt : GoodIn wsX1_spotAt (va_wsS RX1 68 yX1_toldAt wsX1_toldAt) := goodIn_app (goodIn_of _ (by decide +kernel)) ggX1_spotAt_X1_toldAt
theorem dX1_spotAt_0 : decode cX1_spotAt 0 = .ok (.aload_n 1, 1) := by decide +kernel
theorem dX1_spotAt_1 : decode cX1_spotAt 1 = .ok (.aload_n 0, 1) := by decide +kernel
theorem dX1_spotAt_2 : decode cX1_spotAt 2 = .ok (.getfield 9, 3) := by decide +kernel
theorem dX1_spotAt_5 : decode cX1_spotAt 5 = .ok (.aload_n 0, 1) := by decide +kernel
theorem dX1_spotAt_6 : decode cX1_spotAt 6 = .ok (.getfield 41, 3) := by decide +kernel
theorem dX1_spotAt_9 : decode cX1_spotAt 9 = .ok (.invokestatic 68, 3) := by decide +kernel
theorem dX1_spotAt_12 : decode cX1_spotAt 12 = .ok (.ireturn, 1) := by decide +kernel
set_option maxRecDepth 20000 in
theorem ggX1_takeThief_X1_toldAt : GoodIn wsX1_takeThief wsX1_toldAt := goodIn_r _ [6, 7, 8, 9, 10, 11, 12, 13, 14, 15, 16, 17, 18, 19, 20, 21, 22, 23, 24, 25, 26, 5, 27, 45, 46, 47, 48, 49, 50, 51, 52] (by decide +kernel) (by decide +kernel)
set_option maxRecDepth 20000 in
theorem gX1_takeThief_X1_toldAt : GoodIn wsX1_takeThief (va_wsS RX1 68 yX1_toldAt wsX1_toldAt) := goodIn_app (goodIn_of _ (by decide +kernel)) ggX1_takeThief_X1_toldAt
set_option maxRecDepth 20000 in
theorem ggX1_takeThief_X8_step : GoodIn wsX1_takeThief wsX8_step := goodIn_r _ [31, 12, 13, 14, 45, 46, 47, 48, 49, 50, 51, 52] (by decide +kernel) (by decide +kernel)
set_option maxRecDepth 20000 in
theorem gX1_takeThief_X8_step : GoodIn wsX1_takeThief (wsV RX1 72 RX8 yX8_step wsX8_step) := goodIn_app (goodIn_of _ (by decide +kernel)) ggX1_takeThief_X8_step
theorem dX1_takeThief_0 : decode cX1_takeThief 0 = .ok (.aload_n 1, 1) := by decide +kernel
theorem dX1_takeThief_1 : decode cX1_takeThief 1 = .ok (.aload_n 0, 1) := by decide +kernel
theorem dX1_takeThief_2 : decode cX1_takeThief 2 = .ok (.getfield 15, 3) := by decide +kernel
theorem dX1_takeThief_5 : decode cX1_takeThief 5 = .ok (.aload_n 0, 1) := by decide +kernel
theorem dX1_takeThief_6 : decode cX1_takeThief 6 = .ok (.getfield 45, 3) := by decide +kernel
theorem dX1_takeThief_9 : decode cX1_takeThief 9 = .ok (.invokestatic 68, 3) := by decide +kernel
theorem dX1_takeThief_12 : decode cX1_takeThief 12 = .ok (.istore_n 2, 1) := by decide +kernel
theorem dX1_takeThief_13 : decode cX1_takeThief 13 = .ok (.aload_n 1, 1) := by decide +kernel
theorem dX1_takeThief_14 : decode cX1_takeThief 14 = .ok (.invokevirtual 72, 3) := by decide +kernel
theorem dX1_takeThief_17 : decode cX1_takeThief 17 = .ok (.iload_n 2, 1) := by decide +kernel
theorem dX1_takeThief_18 : decode cX1_takeThief 18 = .ok (.ireturn, 1) := by decide +kernel
set_option maxRecDepth 20000 in
theorem ggX1_toldAt_X8_isName : GoodIn wsX1_toldAt wsX8_isName := goodIn_r _ [5, 6, 7, 8, 23, 24, 25, 26, 27, 28, 29, 30] (by decide +kernel) (by decide +kernel)
set_option maxRecDepth 20000 in
theorem gX1_toldAt_X8_isName : GoodIn wsX1_toldAt (wsV RX1 77 RX8 yX8_isName wsX8_isName) := goodIn_app (goodIn_of _ (by decide +kernel)) ggX1_toldAt_X8_isName
set_option maxRecDepth 20000 in
theorem ggX1_toldAt_X8_fail : GoodIn wsX1_toldAt wsX8_fail := goodIn_r _ [12, 6, 13, 8, 23, 24, 25, 26, 27, 28, 29, 30] (by decide +kernel) (by decide +kernel)
set_option maxRecDepth 20000 in
theorem gX1_toldAt_X8_fail : GoodIn wsX1_toldAt (wsV RX1 81 RX8 yX8_fail wsX8_fail) := goodIn_app (goodIn_of _ (by decide +kernel)) ggX1_toldAt_X8_fail
set_option maxRecDepth 20000 in
theorem ggX1_toldAt_X8_packed : GoodIn wsX1_toldAt wsX8_packed := goodIn_r _ [17, 18, 8, 23, 24, 25, 26, 27, 28, 29, 30] (by decide +kernel) (by decide +kernel)
set_option maxRecDepth 20000 in
theorem gX1_toldAt_X8_packed : GoodIn wsX1_toldAt (wsV RX1 85 RX8 yX8_packed wsX8_packed) := goodIn_app (goodIn_of _ (by decide +kernel)) ggX1_toldAt_X8_packed
set_option maxRecDepth 20000 in
theorem ggX1_toldAt_X1_placeOf : GoodIn wsX1_toldAt wsX1_placeOf := goodIn_r _ [22] (by decide +kernel) (by decide +kernel)
set_option maxRecDepth 20000 in
theorem gX1_toldAt_X1_placeOf : GoodIn wsX1_toldAt (va_wsS RX1 64 yX1_placeOf wsX1_placeOf) := goodIn_app (goodIn_of _ (by decide +kernel)) ggX1_toldAt_X1_placeOf
theorem dX1_toldAt_0 : decode cX1_toldAt 0 = .ok (.iconst (-1), 1) := by decide +kernel
theorem dX1_toldAt_1 : decode cX1_toldAt 1 = .ok (.istore_n 3, 1) := by decide +kernel
theorem dX1_toldAt_2 : decode cX1_toldAt 2 = .ok (.aload_n 0, 1) := by decide +kernel
theorem dX1_toldAt_3 : decode cX1_toldAt 3 = .ok (.invokevirtual 77, 3) := by decide +kernel
theorem dX1_toldAt_6 : decode cX1_toldAt 6 = .ok (.ifCond .ne 11, 3) := by decide +kernel
theorem dX1_toldAt_9 : decode cX1_toldAt 9 = .ok (.aload_n 0, 1) := by decide +kernel
theorem dX1_toldAt_10 : decode cX1_toldAt 10 = .ok (.iconst 1, 1) := by decide +kernel
theorem dX1_toldAt_11 : decode cX1_toldAt 11 = .ok (.invokevirtual 81, 3) := by decide +kernel
theorem dX1_toldAt_14 : decode cX1_toldAt 14 = .ok (.goto 23, 3) := by decide +kernel
theorem dX1_toldAt_17 : decode cX1_toldAt 17 = .ok (.aload_n 0, 1) := by decide +kernel
theorem dX1_toldAt_18 : decode cX1_toldAt 18 = .ok (.invokevirtual 85, 3) := by decide +kernel
theorem dX1_toldAt_21 : decode cX1_toldAt 21 = .ok (.aload_n 1, 1) := by decide +kernel
theorem dX1_toldAt_22 : decode cX1_toldAt 22 = .ok (.iload_n 2, 1) := by decide +kernel
theorem dX1_toldAt_23 : decode cX1_toldAt 23 = .ok (.invokestatic 64, 3) := by decide +kernel
theorem dX1_toldAt_26 : decode cX1_toldAt 26 = .ok (.istore_n 3, 1) := by decide +kernel
theorem dX1_toldAt_27 : decode cX1_toldAt 27 = .ok (.iload_n 3, 1) := by decide +kernel
theorem dX1_toldAt_28 : decode cX1_toldAt 28 = .ok (.iconst (-1), 1) := by decide +kernel
theorem dX1_toldAt_29 : decode cX1_toldAt 29 = .ok (.if_icmp .ne 8, 3) := by decide +kernel
theorem dX1_toldAt_32 : decode cX1_toldAt 32 = .ok (.aload_n 0, 1) := by decide +kernel
theorem dX1_toldAt_33 : decode cX1_toldAt 33 = .ok (.iconst 2, 1) := by decide +kernel
theorem dX1_toldAt_34 : decode cX1_toldAt 34 = .ok (.invokevirtual 81, 3) := by decide +kernel
theorem dX1_toldAt_37 : decode cX1_toldAt 37 = .ok (.iload_n 3, 1) := by decide +kernel
theorem dX1_toldAt_38 : decode cX1_toldAt 38 = .ok (.ireturn, 1) := by decide +kernel
theorem dX1_thievesAt_0 : decode cX1_thievesAt 0 = .ok (.iconst 0, 1) := by decide +kernel
theorem dX1_thievesAt_1 : decode cX1_thievesAt 1 = .ok (.istore_n 2, 1) := by decide +kernel
theorem dX1_thievesAt_2 : decode cX1_thievesAt 2 = .ok (.iconst 0, 1) := by decide +kernel
theorem dX1_thievesAt_3 : decode cX1_thievesAt 3 = .ok (.istore_n 3, 1) := by decide +kernel
theorem dX1_thievesAt_4 : decode cX1_thievesAt 4 = .ok (.iload_n 3, 1) := by decide +kernel
theorem dX1_thievesAt_5 : decode cX1_thievesAt 5 = .ok (.aload_n 0, 1) := by decide +kernel
theorem dX1_thievesAt_6 : decode cX1_thievesAt 6 = .ok (.getfield 45, 3) := by decide +kernel
theorem dX1_thievesAt_9 : decode cX1_thievesAt 9 = .ok (.if_icmp .ge 24, 3) := by decide +kernel
theorem dX1_thievesAt_12 : decode cX1_thievesAt 12 = .ok (.iload_n 2, 1) := by decide +kernel
theorem dX1_thievesAt_13 : decode cX1_thievesAt 13 = .ok (.aload_n 0, 1) := by decide +kernel
theorem dX1_thievesAt_14 : decode cX1_thievesAt 14 = .ok (.getfield 28, 3) := by decide +kernel
theorem dX1_thievesAt_17 : decode cX1_thievesAt 17 = .ok (.iload_n 3, 1) := by decide +kernel
theorem dX1_thievesAt_18 : decode cX1_thievesAt 18 = .ok (.iaload, 1) := by decide +kernel
theorem dX1_thievesAt_19 : decode cX1_thievesAt 19 = .ok (.iload_n 1, 1) := by decide +kernel
theorem dX1_thievesAt_20 : decode cX1_thievesAt 20 = .ok (.ishr, 1) := by decide +kernel
theorem dX1_thievesAt_21 : decode cX1_thievesAt 21 = .ok (.iconst 1, 1) := by decide +kernel
theorem dX1_thievesAt_22 : decode cX1_thievesAt 22 = .ok (.iand, 1) := by decide +kernel
theorem dX1_thievesAt_23 : decode cX1_thievesAt 23 = .ok (.iload_n 3, 1) := by decide +kernel
theorem dX1_thievesAt_24 : decode cX1_thievesAt 24 = .ok (.ishl, 1) := by decide +kernel
theorem dX1_thievesAt_25 : decode cX1_thievesAt 25 = .ok (.ior, 1) := by decide +kernel
theorem dX1_thievesAt_26 : decode cX1_thievesAt 26 = .ok (.istore_n 2, 1) := by decide +kernel
theorem dX1_thievesAt_27 : decode cX1_thievesAt 27 = .ok (.iinc 3 1, 3) := by decide +kernel
theorem dX1_thievesAt_30 : decode cX1_thievesAt 30 = .ok (.goto (-26), 3) := by decide +kernel
theorem dX1_thievesAt_33 : decode cX1_thievesAt 33 = .ok (.iload_n 2, 1) := by decide +kernel
theorem dX1_thievesAt_34 : decode cX1_thievesAt 34 = .ok (.ireturn, 1) := by decide +kernel
set_option maxRecDepth 20000 in
theorem ggX2_init_X5_init : GoodIn wsX2_init wsX5_init := goodIn_r _ [11, 12, 2, 3, 13, 14, 15, 16, 17, 18, 21, 22, 23, 24] (by decide +kernel) (by decide +kernel)
set_option maxRecDepth 20000 in
theorem gX2_init_X5_init : GoodIn wsX2_init (wsX5_init) := ggX2_init_X5_init
theorem dX2_init_0 : decode cX2_init 0 = .ok (.aload_n 0, 1) := by decide +kernel
theorem dX2_init_1 : decode cX2_init 1 = .ok (.invokespecial 3, 3) := by decide +kernel
theorem dX2_init_4 : decode cX2_init 4 = .ok (.aload_n 0, 1) := by decide +kernel
theorem dX2_init_5 : decode cX2_init 5 = .ok (.aload_n 1, 1) := by decide +kernel
theorem dX2_init_6 : decode cX2_init 6 = .ok (.putfield 9, 3) := by decide +kernel
theorem dX2_init_9 : decode cX2_init 9 = .ok (.aload_n 0, 1) := by decide +kernel
theorem dX2_init_10 : decode cX2_init 10 = .ok (.new 15, 3) := by decide +kernel
theorem dX2_init_13 : decode cX2_init 13 = .ok (.dup, 1) := by decide +kernel
theorem dX2_init_14 : decode cX2_init 14 = .ok (.aload_n 1, 1) := by decide +kernel
theorem dX2_init_15 : decode cX2_init 15 = .ok (.invokespecial 17, 3) := by decide +kernel
theorem dX2_init_18 : decode cX2_init 18 = .ok (.putfield 20, 3) := by decide +kernel
theorem dX2_init_21 : decode cX2_init 21 = .ok (.return_, 1) := by decide +kernel
set_option maxRecDepth 20000 in
theorem ggX2_read_X1_clear : GoodIn wsX2_read wsX1_clear := goodIn_r _ [7, 8, 9, 10, 11, 12, 13, 14, 15, 16, 17, 18, 19, 20, 21, 22, 23, 24, 25, 26, 27, 28, 29, 30, 31, 32, 33, 34, 35, 461, 462, 463, 464, 465, 466, 467, 468, 469, 470, 471, 472, 473, 474, 475, 476, 477, 478, 479, 480, 481, 482, 483, 484, 485, 486] (by decide +kernel) (by decide +kernel)
set_option maxRecDepth 20000 in
theorem gX2_read_X1_clear : GoodIn wsX2_read (wsV RX2 24 RX1 yX1_clear wsX1_clear) := goodIn_app (goodIn_of _ (by decide +kernel)) ggX2_read_X1_clear
set_option maxRecDepth 20000 in
theorem ggX2_read_X8_open : GoodIn wsX2_read wsX8_open := goodIn_r _ [40, 41, 42, 43, 44, 45, 46, 47, 39, 48, 49, 50, 51, 52, 53, 54, 55, 56, 57, 58, 59, 60, 61, 62, 63, 64, 65, 66, 67, 68, 69, 70, 71, 72, 73, 74, 75, 76, 77, 78, 79, 80, 81, 82, 83, 84, 85, 86, 87, 88, 89, 90, 91, 92, 93, 94, 95, 96, 97, 98, 99, 100, 101, 102, 103, 104, 105, 106, 107, 108, 109, 110, 111, 112, 113, 114, 115, 116, 117, 118, 119, 120, 121, 122, 123, 124, 125, 126, 127, 128, 129, 130, 131, 132, 133, 134, 135, 136, 137, 138, 139, 140, 141, 142, 143, 144, 145, 146, 147, 148, 149, 150, 151, 152, 153, 154, 155, 156, 157, 158, 159, 160, 161, 162, 163, 164, 165, 166, 167, 168, 169, 170, 171, 172, 173, 174, 175, 487, 488, 489, 490, 491, 492, 493, 494] (by decide +kernel) (by decide +kernel)
set_option maxRecDepth 20000 in
theorem gX2_read_X8_open : GoodIn wsX2_read (wsV RX2 29 RX8 yX8_open wsX8_open) := goodIn_app (goodIn_of _ (by decide +kernel)) ggX2_read_X8_open
set_option maxRecDepth 20000 in
theorem ggX2_read_X8_goesOn : GoodIn wsX2_read wsX8_goesOn := goodIn_r _ [179, 43, 76, 42, 487, 488, 489, 490, 491, 492, 493, 494] (by decide +kernel) (by decide +kernel)
set_option maxRecDepth 20000 in
theorem gX2_read_X8_goesOn : GoodIn wsX2_read (wsV RX2 34 RX8 yX8_goesOn wsX8_goesOn) := goodIn_app (goodIn_of _ (by decide +kernel)) ggX2_read_X8_goesOn
set_option maxRecDepth 20000 in
theorem ggX2_read_X8_word : GoodIn wsX2_read wsX8_word := goodIn_r _ [183, 43, 76, 42, 78, 184, 66, 67, 63, 68, 69, 70, 71, 487, 488, 489, 490, 491, 492, 493, 494] (by decide +kernel) (by decide +kernel)
set_option maxRecDepth 20000 in
theorem gX2_read_X8_word : GoodIn wsX2_read (wsV RX2 44 RX8 yX8_word wsX8_word) := goodIn_app (goodIn_of _ (by decide +kernel)) ggX2_read_X8_word
set_option maxRecDepth 20000 in
theorem ggX2_read_Jx29ce0_ordinal_8abf5 : GoodIn wsX2_read wsJx29ce0_ordinal_8abf5 := goodIn_r _ [190, 191] (by decide +kernel) (by decide +kernel)
set_option maxRecDepth 20000 in
theorem gX2_read_Jx29ce0_ordinal_8abf5_u48X10 : GoodIn wsX2_read (va_wsU RX2 48 RX10 "java/lang/Enum" ⟨"PanelCopies$Word", "ordinal", "()I"⟩ yJx29ce0_ordinal_8abf5 wsJx29ce0_ordinal_8abf5) := goodIn_app (goodIn_of _ (by decide +kernel)) ggX2_read_Jx29ce0_ordinal_8abf5
set_option maxRecDepth 20000 in
theorem ggX2_read_X2_readSpot : GoodIn wsX2_read wsX2_readSpot := goodIn_r _ [196, 1, 197, 198, 199, 200, 201, 39, 202, 203, 204, 205, 206, 43, 76, 42, 207, 208, 209, 210, 77, 211, 212, 213, 195, 214, 215, 216, 217, 218, 78, 219, 220, 221, 222, 223, 224, 225, 226, 6, 227, 228, 8, 229, 9, 230, 10, 231, 232, 233, 234, 235, 236, 237, 238, 239, 240, 241, 242, 243, 244, 245, 459, 460, 461, 462, 463, 464, 465, 466, 467, 468, 469, 470, 471, 472, 473, 487, 488, 489, 490, 491, 492, 493, 494] (by decide +kernel) (by decide +kernel)
set_option maxRecDepth 20000 in
theorem gX2_read_X2_readSpot : GoodIn wsX2_read (wsV RX2 54 RX2 yX2_readSpot wsX2_readSpot) := goodIn_app (goodIn_of _ (by decide +kernel)) ggX2_read_X2_readSpot
set_option maxRecDepth 20000 in
theorem ggX2_read_X2_readThief : GoodIn wsX2_read wsX2_readThief := goodIn_r _ [249, 1, 250, 251, 252, 253, 198, 199, 200, 201, 39, 202, 203, 204, 205, 206, 43, 76, 42, 207, 208, 209, 210, 77, 211, 212, 213, 195, 214, 215, 216, 217, 218, 78, 219, 220, 221, 222, 223, 224, 225, 226, 6, 227, 228, 8, 229, 9, 230, 10, 231, 232, 233, 254, 255, 256, 257, 180, 181, 182, 183, 184, 66, 67, 63, 68, 69, 70, 71, 258, 259, 260, 2, 185, 186, 187, 188, 189, 190, 191, 261, 262, 263, 264, 265, 266, 267, 268, 269, 270, 271, 272, 273, 274, 275, 276, 277, 278, 279, 280, 281, 282, 283, 284, 285, 286, 287, 288, 289, 290, 291, 292, 293, 294, 295, 296, 297, 298, 299, 300, 301, 302, 303, 234, 235, 236, 237, 238, 239, 240, 241, 304, 305, 306, 307, 308, 309, 310, 13, 311, 459, 460, 461, 462, 463, 464, 465, 466, 467, 468, 469, 470, 471, 472, 473, 487, 488, 489, 490, 491, 492, 493, 494, 474, 475, 476, 477, 478, 479, 480, 481, 482, 483, 484, 485, 486] (by decide +kernel) (by decide +kernel)
set_option maxRecDepth 20000 in
theorem gX2_read_X2_readThief : GoodIn wsX2_read (wsV RX2 58 RX2 yX2_readThief wsX2_readThief) := goodIn_app (goodIn_of _ (by decide +kernel)) ggX2_read_X2_readThief
set_option maxRecDepth 20000 in
theorem ggX2_read_X2_readCopy : GoodIn wsX2_read wsX2_readCopy := goodIn_r _ [315, 1, 316, 317, 318, 319, 320, 198, 199, 200, 201, 39, 202, 203, 204, 205, 206, 43, 76, 42, 207, 208, 209, 210, 77, 261, 262, 263, 264, 265, 266, 267, 268, 78, 269, 270, 271, 272, 273, 274, 275, 276, 277, 278, 279, 280, 281, 282, 321, 322, 323, 195, 324, 325, 326, 327, 328, 329, 330, 331, 6, 332, 228, 8, 333, 334, 335, 336, 220, 221, 222, 337, 338, 216, 217, 218, 231, 232, 233, 293, 294, 295, 296, 223, 297, 298, 299, 300, 301, 302, 303, 219, 339, 340, 341, 342, 229, 9, 343, 234, 235, 236, 237, 238, 239, 240, 241, 344, 345, 346, 17, 347, 26, 19, 20, 22, 21, 23, 348, 349, 350, 351, 459, 460, 461, 462, 463, 464, 465, 466, 467, 468, 469, 470, 471, 472, 473, 474, 475, 476, 477, 478, 479, 480, 481, 482, 483, 484, 485, 486, 487, 488, 489, 490, 491, 492, 493, 494] (by decide +kernel) (by decide +kernel)
set_option maxRecDepth 20000 in
theorem gX2_read_X2_readCopy : GoodIn wsX2_read (wsV RX2 61 RX2 yX2_readCopy wsX2_readCopy) := goodIn_app (goodIn_of _ (by decide +kernel)) ggX2_read_X2_readCopy
set_option maxRecDepth 20000 in
theorem ggX2_read_X2_readExpert : GoodIn wsX2_read wsX2_readExpert := goodIn_r _ [355, 1, 356, 357, 198, 199, 200, 201, 39, 202, 203, 204, 205, 206, 43, 76, 42, 207, 208, 209, 210, 77, 211, 212, 213, 195, 214, 215, 216, 217, 218, 78, 219, 220, 221, 222, 223, 224, 225, 226, 6, 227, 228, 8, 229, 9, 230, 10, 231, 232, 233, 261, 262, 263, 264, 265, 266, 267, 268, 269, 321, 322, 323, 324, 325, 326, 327, 328, 329, 330, 331, 332, 333, 334, 335, 336, 337, 338, 293, 294, 295, 296, 297, 298, 299, 300, 301, 302, 303, 234, 235, 236, 237, 238, 239, 240, 241, 358, 359, 360, 361, 362, 459, 460, 461, 462, 463, 464, 465, 466, 467, 468, 469, 470, 471, 472, 473, 487, 488, 489, 490, 491, 492, 493, 494] (by decide +kernel) (by decide +kernel)
set_option maxRecDepth 20000 in
theorem gX2_read_X2_readExpert : GoodIn wsX2_read (wsV RX2 64 RX2 yX2_readExpert wsX2_readExpert) := goodIn_app (goodIn_of _ (by decide +kernel)) ggX2_read_X2_readExpert
set_option maxRecDepth 20000 in
theorem ggX2_read_X2_readWorth : GoodIn wsX2_read wsX2_readWorth := goodIn_r _ [366, 1, 367, 368, 369, 199, 200, 201, 39, 202, 203, 204, 205, 206, 43, 76, 42, 207, 208, 209, 210, 77, 370, 371, 372, 373, 374, 375, 376, 377, 378, 379, 380, 381, 382, 383, 384, 385, 386, 387, 388, 389, 390, 391, 266, 267, 268, 78, 269, 392, 393, 394, 395, 396, 397, 398, 399, 239, 240, 241, 400, 279, 280, 281, 401, 402, 403, 404, 405, 406, 407, 408, 235, 236, 237, 238, 409, 410, 411, 412, 275, 276, 277, 413, 414, 415, 416, 417, 418, 419, 420, 421, 422, 423, 424, 425, 426, 427, 34, 428, 429, 430, 431, 432, 433, 434, 435, 436, 120, 117, 121, 437, 438, 439, 440, 441, 442, 443, 444, 445, 446, 447, 448, 234, 459, 460, 461, 462, 463, 464, 465, 466, 467, 468, 469, 470, 471, 472, 473, 487, 488, 489, 490, 491, 492, 493, 494, 495, 496, 497, 498, 499, 500] (by decide +kernel) (by decide +kernel)
set_option maxRecDepth 20000 in
theorem gX2_read_X2_readWorth : GoodIn wsX2_read (wsV RX2 67 RX2 yX2_readWorth wsX2_readWorth) := goodIn_app (goodIn_of _ (by decide +kernel)) ggX2_read_X2_readWorth
set_option maxRecDepth 20000 in
theorem ggX2_read_X2_readHard : GoodIn wsX2_read wsX2_readHard := goodIn_r _ [452, 1, 453, 368, 454, 199, 200, 201, 39, 202, 203, 204, 205, 206, 43, 76, 42, 207, 208, 209, 210, 77, 370, 371, 372, 373, 374, 375, 376, 377, 378, 379, 380, 381, 382, 383, 384, 385, 386, 387, 388, 389, 390, 391, 266, 267, 268, 78, 269, 392, 393, 394, 395, 396, 397, 398, 399, 239, 240, 241, 400, 279, 280, 281, 401, 402, 403, 404, 405, 406, 407, 408, 235, 236, 237, 238, 409, 410, 411, 412, 275, 276, 277, 413, 414, 415, 416, 417, 418, 419, 420, 421, 422, 423, 424, 425, 426, 427, 34, 428, 429, 430, 431, 432, 433, 434, 435, 436, 120, 117, 121, 437, 438, 439, 440, 441, 442, 443, 444, 445, 446, 447, 448, 234, 459, 460, 461, 462, 463, 464, 465, 466, 467, 468, 469, 470, 471, 472, 473, 487, 488, 489, 490, 491, 492, 493, 494, 495, 496, 497, 498, 499, 500] (by decide +kernel) (by decide +kernel)
set_option maxRecDepth 20000 in
theorem gX2_read_X2_readHard : GoodIn wsX2_read (wsV RX2 70 RX2 yX2_readHard wsX2_readHard) := goodIn_app (goodIn_of _ (by decide +kernel)) ggX2_read_X2_readHard
set_option maxRecDepth 20000 in
theorem ggX2_read_X8_fail : GoodIn wsX2_read wsX8_fail := goodIn_r _ [210, 43, 77, 42, 487, 488, 489, 490, 491, 492, 493, 494] (by decide +kernel) (by decide +kernel)
set_option maxRecDepth 20000 in
theorem gX2_read_X8_fail : GoodIn wsX2_read (wsV RX2 73 RX8 yX8_fail wsX8_fail) := goodIn_app (goodIn_of _ (by decide +kernel)) ggX2_read_X8_fail
set_option maxRecDepth 20000 in
theorem ggX2_read_X8_close : GoodIn wsX2_read wsX8_close := goodIn_r _ [458, 44, 43, 487, 488, 489, 490, 491, 492, 493, 494] (by decide +kernel) (by decide +kernel)
set_option maxRecDepth 20000 in
theorem gX2_read_X8_close : GoodIn wsX2_read (wsV RX2 77 RX8 yX8_close wsX8_close) := goodIn_app (goodIn_of _ (by decide +kernel)) ggX2_read_X8_close
theorem dX2_read_0 : decode cX2_read 0 = .ok (.aload_n 1, 1) := by decide +kernel
theorem dX2_read_1 : decode cX2_read 1 = .ok (.invokevirtual 24, 3) := by decide +kernel
theorem dX2_read_4 : decode cX2_read 4 = .ok (.aload_n 0, 1) := by decide +kernel
theorem dX2_read_5 : decode cX2_read 5 = .ok (.getfield 9, 3) := by decide +kernel
theorem dX2_read_8 : decode cX2_read 8 = .ok (.invokevirtual 29, 3) := by decide +kernel
theorem dX2_read_11 : decode cX2_read 11 = .ok (.iconst 0, 1) := by decide +kernel
theorem dX2_read_12 : decode cX2_read 12 = .ok (.istore_n 2, 1) := by decide +kernel
theorem dX2_read_13 : decode cX2_read 13 = .ok (.iload_n 2, 1) := by decide +kernel
theorem dX2_read_14 : decode cX2_read 14 = .ok (.sipush 1000, 3) := by decide +kernel
theorem dX2_read_17 : decode cX2_read 17 = .ok (.if_icmp .ge 129, 3) := by decide +kernel
theorem dX2_read_20 : decode cX2_read 20 = .ok (.aload_n 0, 1) := by decide +kernel
theorem dX2_read_21 : decode cX2_read 21 = .ok (.getfield 9, 3) := by decide +kernel
theorem dX2_read_24 : decode cX2_read 24 = .ok (.invokevirtual 34, 3) := by decide +kernel
theorem dX2_read_27 : decode cX2_read 27 = .ok (.ifCond .eq 119, 3) := by decide +kernel
theorem dX2_read_30 : decode cX2_read 30 = .ok (.getstatic 38, 3) := by decide +kernel
theorem dX2_read_33 : decode cX2_read 33 = .ok (.aload_n 0, 1) := by decide +kernel
theorem dX2_read_34 : decode cX2_read 34 = .ok (.getfield 9, 3) := by decide +kernel
theorem dX2_read_37 : decode cX2_read 37 = .ok (.invokevirtual 44, 3) := by decide +kernel
theorem dX2_read_40 : decode cX2_read 40 = .ok (.invokevirtual 48, 3) := by decide +kernel
theorem dX2_read_43 : decode cX2_read 43 = .ok (.iaload, 1) := by decide +kernel
theorem dX2_read_44 : decode cX2_read 44 = .ok (.tableswitch 88 1 6 #[40, 48, 56, 64, 72, 80], 40) := by decide +kernel
theorem dX2_read_84 : decode cX2_read 84 = .ok (.aload_n 0, 1) := by decide +kernel
theorem dX2_read_85 : decode cX2_read 85 = .ok (.aload_n 1, 1) := by decide +kernel
theorem dX2_read_86 : decode cX2_read 86 = .ok (.invokevirtual 54, 3) := by decide +kernel
theorem dX2_read_89 : decode cX2_read 89 = .ok (.goto 51, 3) := by decide +kernel
theorem dX2_read_92 : decode cX2_read 92 = .ok (.aload_n 0, 1) := by decide +kernel
theorem dX2_read_93 : decode cX2_read 93 = .ok (.aload_n 1, 1) := by decide +kernel
theorem dX2_read_94 : decode cX2_read 94 = .ok (.invokevirtual 58, 3) := by decide +kernel
theorem dX2_read_97 : decode cX2_read 97 = .ok (.goto 43, 3) := by decide +kernel
theorem dX2_read_100 : decode cX2_read 100 = .ok (.aload_n 0, 1) := by decide +kernel
theorem dX2_read_101 : decode cX2_read 101 = .ok (.aload_n 1, 1) := by decide +kernel
theorem dX2_read_102 : decode cX2_read 102 = .ok (.invokevirtual 61, 3) := by decide +kernel
theorem dX2_read_105 : decode cX2_read 105 = .ok (.goto 35, 3) := by decide +kernel
theorem dX2_read_108 : decode cX2_read 108 = .ok (.aload_n 0, 1) := by decide +kernel
theorem dX2_read_109 : decode cX2_read 109 = .ok (.aload_n 1, 1) := by decide +kernel
theorem dX2_read_110 : decode cX2_read 110 = .ok (.invokevirtual 64, 3) := by decide +kernel
theorem dX2_read_113 : decode cX2_read 113 = .ok (.goto 27, 3) := by decide +kernel
theorem dX2_read_116 : decode cX2_read 116 = .ok (.aload_n 0, 1) := by decide +kernel
theorem dX2_read_117 : decode cX2_read 117 = .ok (.aload_n 1, 1) := by decide +kernel
theorem dX2_read_118 : decode cX2_read 118 = .ok (.invokevirtual 67, 3) := by decide +kernel
theorem dX2_read_121 : decode cX2_read 121 = .ok (.goto 19, 3) := by decide +kernel
theorem dX2_read_124 : decode cX2_read 124 = .ok (.aload_n 0, 1) := by decide +kernel
theorem dX2_read_125 : decode cX2_read 125 = .ok (.aload_n 1, 1) := by decide +kernel
theorem dX2_read_126 : decode cX2_read 126 = .ok (.invokevirtual 70, 3) := by decide +kernel
theorem dX2_read_129 : decode cX2_read 129 = .ok (.goto 11, 3) := by decide +kernel
theorem dX2_read_132 : decode cX2_read 132 = .ok (.aload_n 0, 1) := by decide +kernel
theorem dX2_read_133 : decode cX2_read 133 = .ok (.getfield 9, 3) := by decide +kernel
theorem dX2_read_136 : decode cX2_read 136 = .ok (.iconst 1, 1) := by decide +kernel
theorem dX2_read_137 : decode cX2_read 137 = .ok (.invokevirtual 73, 3) := by decide +kernel
theorem dX2_read_140 : decode cX2_read 140 = .ok (.iinc 2 1, 3) := by decide +kernel
theorem dX2_read_143 : decode cX2_read 143 = .ok (.goto (-130), 3) := by decide +kernel
theorem dX2_read_146 : decode cX2_read 146 = .ok (.aload_n 0, 1) := by decide +kernel
theorem dX2_read_147 : decode cX2_read 147 = .ok (.getfield 9, 3) := by decide +kernel
theorem dX2_read_150 : decode cX2_read 150 = .ok (.invokevirtual 77, 3) := by decide +kernel
theorem dX2_read_153 : decode cX2_read 153 = .ok (.ireturn, 1) := by decide +kernel
set_option maxRecDepth 20000 in
theorem ggX2_takeNewName_X8_packed : GoodIn wsX2_takeNewName wsX8_packed := goodIn_r _ [6, 7, 8, 45, 46, 47, 48, 49, 50, 51, 52] (by decide +kernel) (by decide +kernel)
set_option maxRecDepth 20000 in
theorem gX2_takeNewName_X8_packed : GoodIn wsX2_takeNewName (wsV RX2 80 RX8 yX8_packed wsX8_packed) := goodIn_app (goodIn_of _ (by decide +kernel)) ggX2_takeNewName_X8_packed
set_option maxRecDepth 20000 in
theorem ggX2_takeNewName_X8_isName : GoodIn wsX2_takeNewName wsX8_isName := goodIn_r _ [12, 13, 14, 8, 45, 46, 47, 48, 49, 50, 51, 52] (by decide +kernel) (by decide +kernel)
set_option maxRecDepth 20000 in
theorem gX2_takeNewName_X8_isName : GoodIn wsX2_takeNewName (wsV RX2 84 RX8 yX8_isName wsX8_isName) := goodIn_app (goodIn_of _ (by decide +kernel)) ggX2_takeNewName_X8_isName
set_option maxRecDepth 20000 in
theorem ggX2_takeNewName_X8_fail : GoodIn wsX2_takeNewName wsX8_fail := goodIn_r _ [18, 13, 19, 8, 45, 46, 47, 48, 49, 50, 51, 52] (by decide +kernel) (by decide +kernel)
set_option maxRecDepth 20000 in
theorem gX2_takeNewName_X8_fail : GoodIn wsX2_takeNewName (wsV RX2 73 RX8 yX8_fail wsX8_fail) := goodIn_app (goodIn_of _ (by decide +kernel)) ggX2_takeNewName_X8_fail
set_option maxRecDepth 20000 in
theorem ggX2_takeNewName_X1_isTold : GoodIn wsX2_takeNewName wsX1_isTold := goodIn_r _ [24, 25, 26, 27, 28, 29, 30, 31, 32, 23, 33, 53, 54, 55, 56, 57, 58, 59, 60, 61, 62, 63, 64, 65] (by decide +kernel) (by decide +kernel)
set_option maxRecDepth 20000 in
theorem gX2_takeNewName_X1_isTold : GoodIn wsX2_takeNewName (wsV RX2 87 RX1 yX1_isTold wsX1_isTold) := goodIn_app (goodIn_of _ (by decide +kernel)) ggX2_takeNewName_X1_isTold
set_option maxRecDepth 20000 in
theorem ggX2_takeNewName_X8_stepOrFail : GoodIn wsX2_takeNewName wsX8_stepOrFail := goodIn_r _ [37, 38, 39, 40, 5, 41, 13, 14, 8, 42, 16, 17, 18, 19, 45, 46, 47, 48, 49, 50, 51, 52] (by decide +kernel) (by decide +kernel)
set_option maxRecDepth 20000 in
theorem gX2_takeNewName_X8_stepOrFail : GoodIn wsX2_takeNewName (wsV RX2 91 RX8 yX8_stepOrFail wsX8_stepOrFail) := goodIn_app (goodIn_of _ (by decide +kernel)) ggX2_takeNewName_X8_stepOrFail
theorem dX2_takeNewName_0 : decode cX2_takeNewName 0 = .ok (.aload_n 0, 1) := by decide +kernel
theorem dX2_takeNewName_1 : decode cX2_takeNewName 1 = .ok (.getfield 9, 3) := by decide +kernel
theorem dX2_takeNewName_4 : decode cX2_takeNewName 4 = .ok (.invokevirtual 80, 3) := by decide +kernel
theorem dX2_takeNewName_7 : decode cX2_takeNewName 7 = .ok (.lstore_n 2, 1) := by decide +kernel
theorem dX2_takeNewName_8 : decode cX2_takeNewName 8 = .ok (.aload_n 0, 1) := by decide +kernel
theorem dX2_takeNewName_9 : decode cX2_takeNewName 9 = .ok (.getfield 9, 3) := by decide +kernel
theorem dX2_takeNewName_12 : decode cX2_takeNewName 12 = .ok (.invokevirtual 84, 3) := by decide +kernel
theorem dX2_takeNewName_15 : decode cX2_takeNewName 15 = .ok (.ifCond .ne 14, 3) := by decide +kernel
theorem dX2_takeNewName_18 : decode cX2_takeNewName 18 = .ok (.aload_n 0, 1) := by decide +kernel
theorem dX2_takeNewName_19 : decode cX2_takeNewName 19 = .ok (.getfield 9, 3) := by decide +kernel
theorem dX2_takeNewName_22 : decode cX2_takeNewName 22 = .ok (.iconst 1, 1) := by decide +kernel
theorem dX2_takeNewName_23 : decode cX2_takeNewName 23 = .ok (.invokevirtual 73, 3) := by decide +kernel
theorem dX2_takeNewName_26 : decode cX2_takeNewName 26 = .ok (.goto 24, 3) := by decide +kernel
theorem dX2_takeNewName_29 : decode cX2_takeNewName 29 = .ok (.aload_n 0, 1) := by decide +kernel
theorem dX2_takeNewName_30 : decode cX2_takeNewName 30 = .ok (.getfield 9, 3) := by decide +kernel
theorem dX2_takeNewName_33 : decode cX2_takeNewName 33 = .ok (.aload_n 1, 1) := by decide +kernel
theorem dX2_takeNewName_34 : decode cX2_takeNewName 34 = .ok (.lload_n 2, 1) := by decide +kernel
theorem dX2_takeNewName_35 : decode cX2_takeNewName 35 = .ok (.invokevirtual 87, 3) := by decide +kernel
theorem dX2_takeNewName_38 : decode cX2_takeNewName 38 = .ok (.ifCond .ne 7, 3) := by decide +kernel
theorem dX2_takeNewName_41 : decode cX2_takeNewName 41 = .ok (.iconst 1, 1) := by decide +kernel
theorem dX2_takeNewName_42 : decode cX2_takeNewName 42 = .ok (.goto 4, 3) := by decide +kernel
theorem dX2_takeNewName_45 : decode cX2_takeNewName 45 = .ok (.iconst 0, 1) := by decide +kernel
theorem dX2_takeNewName_46 : decode cX2_takeNewName 46 = .ok (.iconst 3, 1) := by decide +kernel
theorem dX2_takeNewName_47 : decode cX2_takeNewName 47 = .ok (.invokevirtual 91, 3) := by decide +kernel
theorem dX2_takeNewName_50 : decode cX2_takeNewName 50 = .ok (.lload_n 2, 1) := by decide +kernel
theorem dX2_takeNewName_51 : decode cX2_takeNewName 51 = .ok (.lreturn, 1) := by decide +kernel
set_option maxRecDepth 20000 in
theorem ggX2_readSpot_X8_stepOrFail : GoodIn wsX2_readSpot wsX8_stepOrFail := goodIn_r _ [8, 9, 10, 11, 7, 12, 13, 14, 15, 16, 17, 18, 19, 20, 77, 78, 79, 80, 81, 82, 83, 84] (by decide +kernel) (by decide +kernel)
set_option maxRecDepth 20000 in
theorem gX2_readSpot_X8_stepOrFail : GoodIn wsX2_readSpot (wsV RX2 91 RX8 yX8_stepOrFail wsX8_stepOrFail) := goodIn_app (goodIn_of _ (by decide +kernel)) ggX2_readSpot_X8_stepOrFail
set_option maxRecDepth 20000 in
theorem ggX2_readSpot_X2_takeNewName : GoodIn wsX2_readSpot wsX2_takeNewName := goodIn_r _ [25, 1, 26, 27, 28, 7, 29, 30, 15, 31, 32, 33, 34, 13, 14, 35, 17, 18, 19, 20, 36, 37, 38, 39, 40, 41, 42, 43, 44, 45, 46, 47, 48, 49, 4, 5, 6, 8, 9, 10, 11, 12, 16, 62, 63, 77, 78, 79, 80, 81, 82, 83, 84, 64, 65, 66, 67, 68, 69, 70, 71, 72, 73, 74, 75, 76] (by decide +kernel) (by decide +kernel)
set_option maxRecDepth 20000 in
theorem gX2_readSpot_X2_takeNewName : GoodIn wsX2_readSpot (wsV RX2 99 RX2 yX2_takeNewName wsX2_takeNewName) := goodIn_app (goodIn_of _ (by decide +kernel)) ggX2_readSpot_X2_takeNewName
set_option maxRecDepth 20000 in
theorem ggX2_readSpot_X8_need : GoodIn wsX2_readSpot wsX8_need := goodIn_r _ [53, 54, 55, 56, 7, 57, 13, 14, 15, 30, 9, 10, 11, 12, 16, 17, 18, 19, 20, 77, 78, 79, 80, 81, 82, 83, 84] (by decide +kernel) (by decide +kernel)
set_option maxRecDepth 20000 in
theorem gX2_readSpot_X8_need : GoodIn wsX2_readSpot (wsV RX2 103 RX8 yX8_need wsX8_need) := goodIn_app (goodIn_of _ (by decide +kernel)) ggX2_readSpot_X8_need
set_option maxRecDepth 20000 in
theorem ggX2_readSpot_X1_addSpot : GoodIn wsX2_readSpot wsX1_addSpot := goodIn_r _ [61, 42, 41, 64, 65, 66, 67, 68, 69, 70, 71, 72, 73, 74, 75, 76] (by decide +kernel) (by decide +kernel)
set_option maxRecDepth 20000 in
theorem gX2_readSpot_X1_addSpot : GoodIn wsX2_readSpot (wsV RX2 110 RX1 yX1_addSpot wsX1_addSpot) := goodIn_app (goodIn_of _ (by decide +kernel)) ggX2_readSpot_X1_addSpot
theorem dX2_readSpot_0 : decode cX2_readSpot 0 = .ok (.aload_n 0, 1) := by decide +kernel
theorem dX2_readSpot_1 : decode cX2_readSpot 1 = .ok (.getfield 9, 3) := by decide +kernel
theorem dX2_readSpot_4 : decode cX2_readSpot 4 = .ok (.aload_n 1, 1) := by decide +kernel
theorem dX2_readSpot_5 : decode cX2_readSpot 5 = .ok (.getfield 95, 3) := by decide +kernel
theorem dX2_readSpot_8 : decode cX2_readSpot 8 = .ok (.bipush 8, 2) := by decide +kernel
theorem dX2_readSpot_10 : decode cX2_readSpot 10 = .ok (.if_icmp .ge 7, 3) := by decide +kernel
theorem dX2_readSpot_13 : decode cX2_readSpot 13 = .ok (.iconst 1, 1) := by decide +kernel
theorem dX2_readSpot_14 : decode cX2_readSpot 14 = .ok (.goto 4, 3) := by decide +kernel
theorem dX2_readSpot_17 : decode cX2_readSpot 17 = .ok (.iconst 0, 1) := by decide +kernel
theorem dX2_readSpot_18 : decode cX2_readSpot 18 = .ok (.iconst 5, 1) := by decide +kernel
theorem dX2_readSpot_19 : decode cX2_readSpot 19 = .ok (.invokevirtual 91, 3) := by decide +kernel
theorem dX2_readSpot_22 : decode cX2_readSpot 22 = .ok (.aload_n 0, 1) := by decide +kernel
theorem dX2_readSpot_23 : decode cX2_readSpot 23 = .ok (.aload_n 1, 1) := by decide +kernel
theorem dX2_readSpot_24 : decode cX2_readSpot 24 = .ok (.invokevirtual 99, 3) := by decide +kernel
theorem dX2_readSpot_27 : decode cX2_readSpot 27 = .ok (.lstore_n 2, 1) := by decide +kernel
theorem dX2_readSpot_28 : decode cX2_readSpot 28 = .ok (.aload_n 0, 1) := by decide +kernel
theorem dX2_readSpot_29 : decode cX2_readSpot 29 = .ok (.getfield 9, 3) := by decide +kernel
theorem dX2_readSpot_32 : decode cX2_readSpot 32 = .ok (.bipush 59, 2) := by decide +kernel
theorem dX2_readSpot_34 : decode cX2_readSpot 34 = .ok (.invokevirtual 103, 3) := by decide +kernel
theorem dX2_readSpot_37 : decode cX2_readSpot 37 = .ok (.aload_n 0, 1) := by decide +kernel
theorem dX2_readSpot_38 : decode cX2_readSpot 38 = .ok (.getfield 9, 3) := by decide +kernel
theorem dX2_readSpot_41 : decode cX2_readSpot 41 = .ok (.getfield 107, 3) := by decide +kernel
theorem dX2_readSpot_44 : decode cX2_readSpot 44 = .ok (.ifCond .ne 8, 3) := by decide +kernel
theorem dX2_readSpot_47 : decode cX2_readSpot 47 = .ok (.aload_n 1, 1) := by decide +kernel
theorem dX2_readSpot_48 : decode cX2_readSpot 48 = .ok (.lload_n 2, 1) := by decide +kernel
theorem dX2_readSpot_49 : decode cX2_readSpot 49 = .ok (.invokevirtual 110, 3) := by decide +kernel
theorem dX2_readSpot_52 : decode cX2_readSpot 52 = .ok (.return_, 1) := by decide +kernel
set_option maxRecDepth 20000 in
theorem ggX2_readThief_X8_stepOrFail : GoodIn wsX2_readThief wsX8_stepOrFail := goodIn_r _ [11, 12, 13, 14, 10, 15, 16, 17, 18, 19, 20, 21, 22, 23, 155, 156, 157, 158, 159, 160, 161, 162] (by decide +kernel) (by decide +kernel)
set_option maxRecDepth 20000 in
theorem gX2_readThief_X8_stepOrFail : GoodIn wsX2_readThief (wsV RX2 91 RX8 yX8_stepOrFail wsX8_stepOrFail) := goodIn_app (goodIn_of _ (by decide +kernel)) ggX2_readThief_X8_stepOrFail
set_option maxRecDepth 20000 in
theorem ggX2_readThief_X2_takeNewName : GoodIn wsX2_readThief wsX2_takeNewName := goodIn_r _ [28, 1, 29, 30, 31, 10, 32, 33, 18, 34, 35, 36, 37, 16, 17, 38, 20, 21, 22, 23, 39, 40, 41, 42, 43, 44, 45, 46, 47, 48, 49, 50, 51, 52, 7, 8, 9, 11, 12, 13, 14, 15, 19, 140, 141, 155, 156, 157, 158, 159, 160, 161, 162, 142, 143, 144, 145, 146, 147, 148, 149, 150, 151, 152, 153, 154] (by decide +kernel) (by decide +kernel)
set_option maxRecDepth 20000 in
theorem gX2_readThief_X2_takeNewName : GoodIn wsX2_readThief (wsV RX2 99 RX2 yX2_takeNewName wsX2_takeNewName) := goodIn_app (goodIn_of _ (by decide +kernel)) ggX2_readThief_X2_takeNewName
set_option maxRecDepth 20000 in
theorem ggX2_readThief_X2_takeKind : GoodIn wsX2_readThief wsX2_takeKind := goodIn_r _ [56, 1, 57, 58, 59, 10, 60, 16, 17, 18, 33, 61, 62, 63, 64, 65, 66, 67, 68, 69, 70, 27, 71, 72, 73, 74, 75, 76, 77, 78, 79, 7, 8, 9, 11, 12, 13, 14, 15, 19, 20, 21, 22, 23, 140, 141, 155, 156, 157, 158, 159, 160, 161, 162] (by decide +kernel) (by decide +kernel)
set_option maxRecDepth 20000 in
theorem gX2_readThief_X2_takeKind : GoodIn wsX2_readThief (wsV RX2 117 RX2 yX2_takeKind wsX2_takeKind) := goodIn_app (goodIn_of _ (by decide +kernel)) ggX2_readThief_X2_takeKind
set_option maxRecDepth 20000 in
theorem ggX2_readThief_X8_need_ : GoodIn wsX2_readThief wsX8_need_ := goodIn_r _ [83, 84, 85, 86, 10, 87, 17, 18, 16, 33, 88, 12, 13, 14, 15, 19, 20, 21, 22, 23, 155, 156, 157, 158, 159, 160, 161, 162] (by decide +kernel) (by decide +kernel)
set_option maxRecDepth 20000 in
theorem gX2_readThief_X8_need_ : GoodIn wsX2_readThief (wsV RX2 124 RX8 yX8_need_ wsX8_need_) := goodIn_app (goodIn_of _ (by decide +kernel)) ggX2_readThief_X8_need_
set_option maxRecDepth 20000 in
theorem ggX2_readThief_X8_takeNumberBelow : GoodIn wsX2_readThief wsX8_takeNumberBelow := goodIn_r _ [92, 93, 94, 95, 10, 96, 33, 18, 97, 98, 99, 100, 16, 17, 101, 8, 9, 11, 12, 13, 14, 15, 19, 20, 21, 22, 23, 155, 156, 157, 158, 159, 160, 161, 162] (by decide +kernel) (by decide +kernel)
set_option maxRecDepth 20000 in
theorem gX2_readThief_X8_takeNumberBelow : GoodIn wsX2_readThief (wsV RX2 127 RX8 yX8_takeNumberBelow wsX8_takeNumberBelow) := goodIn_app (goodIn_of _ (by decide +kernel)) ggX2_readThief_X8_takeNumberBelow
set_option maxRecDepth 20000 in
theorem ggX2_readThief_X2_takeHours : GoodIn wsX2_readThief wsX2_takeHours := goodIn_r _ [105, 1, 106, 107, 108, 27, 109, 110, 98, 99, 10, 100, 16, 17, 18, 38, 20, 21, 22, 23, 111, 94, 95, 96, 33, 112, 113, 114, 115, 116, 117, 118, 119, 120, 121, 122, 7, 8, 9, 11, 12, 13, 14, 15, 19, 140, 141, 155, 156, 157, 158, 159, 160, 161, 162] (by decide +kernel) (by decide +kernel)
set_option maxRecDepth 20000 in
theorem gX2_readThief_X2_takeHours : GoodIn wsX2_readThief (wsV RX2 137 RX2 yX2_takeHours wsX2_takeHours) := goodIn_app (goodIn_of _ (by decide +kernel)) ggX2_readThief_X2_takeHours
set_option maxRecDepth 20000 in
theorem ggX2_readThief_X8_need : GoodIn wsX2_readThief wsX8_need := goodIn_r _ [126, 127, 128, 129, 10, 130, 16, 17, 18, 33, 12, 13, 14, 15, 19, 20, 21, 22, 23, 155, 156, 157, 158, 159, 160, 161, 162] (by decide +kernel) (by decide +kernel)
set_option maxRecDepth 20000 in
theorem gX2_readThief_X8_need : GoodIn wsX2_readThief (wsV RX2 103 RX8 yX8_need wsX8_need) := goodIn_app (goodIn_of _ (by decide +kernel)) ggX2_readThief_X8_need
set_option maxRecDepth 20000 in
theorem ggX2_readThief_X1_addThief : GoodIn wsX2_readThief wsX1_addThief := goodIn_r _ [134, 47, 46, 135, 136, 137, 138, 139, 142, 143, 144, 145, 146, 147, 148, 149, 150, 151, 152, 153, 154, 163, 164, 165, 166, 167, 168, 169, 170, 171, 172, 173, 174, 175] (by decide +kernel) (by decide +kernel)
set_option maxRecDepth 20000 in
theorem gX2_readThief_X1_addThief : GoodIn wsX2_readThief (wsV RX2 140 RX1 yX1_addThief wsX1_addThief) := goodIn_app (goodIn_of _ (by decide +kernel)) ggX2_readThief_X1_addThief
theorem dX2_readThief_0 : decode cX2_readThief 0 = .ok (.aload_n 0, 1) := by decide +kernel
theorem dX2_readThief_1 : decode cX2_readThief 1 = .ok (.getfield 9, 3) := by decide +kernel
theorem dX2_readThief_4 : decode cX2_readThief 4 = .ok (.aload_n 1, 1) := by decide +kernel
theorem dX2_readThief_5 : decode cX2_readThief 5 = .ok (.getfield 114, 3) := by decide +kernel
theorem dX2_readThief_8 : decode cX2_readThief 8 = .ok (.iconst 5, 1) := by decide +kernel
theorem dX2_readThief_9 : decode cX2_readThief 9 = .ok (.if_icmp .ge 7, 3) := by decide +kernel
theorem dX2_readThief_12 : decode cX2_readThief 12 = .ok (.iconst 1, 1) := by decide +kernel
theorem dX2_readThief_13 : decode cX2_readThief 13 = .ok (.goto 4, 3) := by decide +kernel
theorem dX2_readThief_16 : decode cX2_readThief 16 = .ok (.iconst 0, 1) := by decide +kernel
theorem dX2_readThief_17 : decode cX2_readThief 17 = .ok (.iconst 5, 1) := by decide +kernel
theorem dX2_readThief_18 : decode cX2_readThief 18 = .ok (.invokevirtual 91, 3) := by decide +kernel
theorem dX2_readThief_21 : decode cX2_readThief 21 = .ok (.aload_n 0, 1) := by decide +kernel
theorem dX2_readThief_22 : decode cX2_readThief 22 = .ok (.aload_n 1, 1) := by decide +kernel
theorem dX2_readThief_23 : decode cX2_readThief 23 = .ok (.invokevirtual 99, 3) := by decide +kernel
theorem dX2_readThief_26 : decode cX2_readThief 26 = .ok (.lstore_n 2, 1) := by decide +kernel
theorem dX2_readThief_27 : decode cX2_readThief 27 = .ok (.aload_n 0, 1) := by decide +kernel
theorem dX2_readThief_28 : decode cX2_readThief 28 = .ok (.invokevirtual 117, 3) := by decide +kernel
theorem dX2_readThief_31 : decode cX2_readThief 31 = .ok (.istore 4, 2) := by decide +kernel
theorem dX2_readThief_33 : decode cX2_readThief 33 = .ok (.aload_n 0, 1) := by decide +kernel
theorem dX2_readThief_34 : decode cX2_readThief 34 = .ok (.getfield 9, 3) := by decide +kernel
theorem dX2_readThief_37 : decode cX2_readThief 37 = .ok (.getstatic 120, 3) := by decide +kernel
theorem dX2_readThief_40 : decode cX2_readThief 40 = .ok (.invokevirtual 124, 3) := by decide +kernel
theorem dX2_readThief_43 : decode cX2_readThief 43 = .ok (.aload_n 0, 1) := by decide +kernel
theorem dX2_readThief_44 : decode cX2_readThief 44 = .ok (.getfield 9, 3) := by decide +kernel
theorem dX2_readThief_47 : decode cX2_readThief 47 = .ok (.bipush 100, 2) := by decide +kernel
theorem dX2_readThief_49 : decode cX2_readThief 49 = .ok (.invokevirtual 127, 3) := by decide +kernel
theorem dX2_readThief_52 : decode cX2_readThief 52 = .ok (.istore 5, 2) := by decide +kernel
theorem dX2_readThief_54 : decode cX2_readThief 54 = .ok (.aload_n 0, 1) := by decide +kernel
theorem dX2_readThief_55 : decode cX2_readThief 55 = .ok (.getfield 9, 3) := by decide +kernel
theorem dX2_readThief_58 : decode cX2_readThief 58 = .ok (.getstatic 131, 3) := by decide +kernel
theorem dX2_readThief_61 : decode cX2_readThief 61 = .ok (.invokevirtual 124, 3) := by decide +kernel
theorem dX2_readThief_64 : decode cX2_readThief 64 = .ok (.aload_n 0, 1) := by decide +kernel
theorem dX2_readThief_65 : decode cX2_readThief 65 = .ok (.getfield 9, 3) := by decide +kernel
theorem dX2_readThief_68 : decode cX2_readThief 68 = .ok (.sipush 1000, 3) := by decide +kernel
theorem dX2_readThief_71 : decode cX2_readThief 71 = .ok (.invokevirtual 127, 3) := by decide +kernel
theorem dX2_readThief_74 : decode cX2_readThief 74 = .ok (.istore 6, 2) := by decide +kernel
theorem dX2_readThief_76 : decode cX2_readThief 76 = .ok (.aload_n 0, 1) := by decide +kernel
theorem dX2_readThief_77 : decode cX2_readThief 77 = .ok (.getfield 9, 3) := by decide +kernel
theorem dX2_readThief_80 : decode cX2_readThief 80 = .ok (.getstatic 134, 3) := by decide +kernel
theorem dX2_readThief_83 : decode cX2_readThief 83 = .ok (.invokevirtual 124, 3) := by decide +kernel
theorem dX2_readThief_86 : decode cX2_readThief 86 = .ok (.aload_n 0, 1) := by decide +kernel
theorem dX2_readThief_87 : decode cX2_readThief 87 = .ok (.invokevirtual 137, 3) := by decide +kernel
theorem dX2_readThief_90 : decode cX2_readThief 90 = .ok (.istore 7, 2) := by decide +kernel
theorem dX2_readThief_92 : decode cX2_readThief 92 = .ok (.aload_n 0, 1) := by decide +kernel
theorem dX2_readThief_93 : decode cX2_readThief 93 = .ok (.getfield 9, 3) := by decide +kernel
theorem dX2_readThief_96 : decode cX2_readThief 96 = .ok (.bipush 59, 2) := by decide +kernel
theorem dX2_readThief_98 : decode cX2_readThief 98 = .ok (.invokevirtual 103, 3) := by decide +kernel
theorem dX2_readThief_101 : decode cX2_readThief 101 = .ok (.aload_n 0, 1) := by decide +kernel
theorem dX2_readThief_102 : decode cX2_readThief 102 = .ok (.getfield 9, 3) := by decide +kernel
theorem dX2_readThief_105 : decode cX2_readThief 105 = .ok (.getfield 107, 3) := by decide +kernel
theorem dX2_readThief_108 : decode cX2_readThief 108 = .ok (.ifCond .ne 16, 3) := by decide +kernel
theorem dX2_readThief_111 : decode cX2_readThief 111 = .ok (.aload_n 1, 1) := by decide +kernel
theorem dX2_readThief_112 : decode cX2_readThief 112 = .ok (.lload_n 2, 1) := by decide +kernel
theorem dX2_readThief_113 : decode cX2_readThief 113 = .ok (.iload 4, 2) := by decide +kernel
theorem dX2_readThief_115 : decode cX2_readThief 115 = .ok (.iload 5, 2) := by decide +kernel
theorem dX2_readThief_117 : decode cX2_readThief 117 = .ok (.iload 6, 2) := by decide +kernel
theorem dX2_readThief_119 : decode cX2_readThief 119 = .ok (.iload 7, 2) := by decide +kernel
theorem dX2_readThief_121 : decode cX2_readThief 121 = .ok (.invokevirtual 140, 3) := by decide +kernel
theorem dX2_readThief_124 : decode cX2_readThief 124 = .ok (.return_, 1) := by decide +kernel
set_option maxRecDepth 20000 in
theorem ggX2_takeKind_X8_word : GoodIn wsX2_takeKind wsX8_word := goodIn_r _ [6, 7, 8, 9, 10, 11, 12, 13, 14, 15, 16, 17, 18, 46, 47, 48, 49, 50, 51, 52, 53] (by decide +kernel) (by decide +kernel)
set_option maxRecDepth 20000 in
theorem gX2_takeKind_X8_word : GoodIn wsX2_takeKind (wsV RX2 44 RX8 yX8_word wsX8_word) := goodIn_app (goodIn_of _ (by decide +kernel)) ggX2_takeKind_X8_word
set_option maxRecDepth 20000 in
theorem ggX2_takeKind_X2_kindOf : GoodIn wsX2_takeKind wsX2_kindOf := goodIn_r _ [22, 23, 24, 25, 26, 27, 28, 29, 30] (by decide +kernel) (by decide +kernel)
set_option maxRecDepth 20000 in
theorem gX2_takeKind_X2_kindOf : GoodIn wsX2_takeKind (va_wsS RX2 144 yX2_kindOf wsX2_kindOf) := goodIn_app (goodIn_of _ (by decide +kernel)) ggX2_takeKind_X2_kindOf
set_option maxRecDepth 20000 in
theorem ggX2_takeKind_X8_stepOrFail : GoodIn wsX2_takeKind wsX8_stepOrFail := goodIn_r _ [34, 35, 36, 37, 5, 38, 7, 8, 9, 39, 40, 41, 42, 43, 46, 47, 48, 49, 50, 51, 52, 53] (by decide +kernel) (by decide +kernel)
set_option maxRecDepth 20000 in
theorem gX2_takeKind_X8_stepOrFail : GoodIn wsX2_takeKind (wsV RX2 91 RX8 yX8_stepOrFail wsX8_stepOrFail) := goodIn_app (goodIn_of _ (by decide +kernel)) ggX2_takeKind_X8_stepOrFail
theorem dX2_takeKind_0 : decode cX2_takeKind 0 = .ok (.aload_n 0, 1) := by decide +kernel
theorem dX2_takeKind_1 : decode cX2_takeKind 1 = .ok (.getfield 9, 3) := by decide +kernel
theorem dX2_takeKind_4 : decode cX2_takeKind 4 = .ok (.invokevirtual 44, 3) := by decide +kernel
theorem dX2_takeKind_7 : decode cX2_takeKind 7 = .ok (.invokestatic 144, 3) := by decide +kernel
theorem dX2_takeKind_10 : decode cX2_takeKind 10 = .ok (.istore_n 1, 1) := by decide +kernel
theorem dX2_takeKind_11 : decode cX2_takeKind 11 = .ok (.aload_n 0, 1) := by decide +kernel
theorem dX2_takeKind_12 : decode cX2_takeKind 12 = .ok (.getfield 9, 3) := by decide +kernel
theorem dX2_takeKind_15 : decode cX2_takeKind 15 = .ok (.iload_n 1, 1) := by decide +kernel
theorem dX2_takeKind_16 : decode cX2_takeKind 16 = .ok (.iconst (-1), 1) := by decide +kernel
theorem dX2_takeKind_17 : decode cX2_takeKind 17 = .ok (.if_icmp .eq 7, 3) := by decide +kernel
theorem dX2_takeKind_20 : decode cX2_takeKind 20 = .ok (.iconst 1, 1) := by decide +kernel
theorem dX2_takeKind_21 : decode cX2_takeKind 21 = .ok (.goto 4, 3) := by decide +kernel
theorem dX2_takeKind_24 : decode cX2_takeKind 24 = .ok (.iconst 0, 1) := by decide +kernel
theorem dX2_takeKind_25 : decode cX2_takeKind 25 = .ok (.iconst 1, 1) := by decide +kernel
theorem dX2_takeKind_26 : decode cX2_takeKind 26 = .ok (.invokevirtual 91, 3) := by decide +kernel
theorem dX2_takeKind_29 : decode cX2_takeKind 29 = .ok (.iload_n 1, 1) := by decide +kernel
theorem dX2_takeKind_30 : decode cX2_takeKind 30 = .ok (.ireturn, 1) := by decide +kernel
set_option maxRecDepth 20000 in
theorem ggX2_kindOf_Jx29ce0_ordinal_8abf5 : GoodIn wsX2_kindOf wsJx29ce0_ordinal_8abf5 := goodIn_r _ [7, 8] (by decide +kernel) (by decide +kernel)
set_option maxRecDepth 20000 in
theorem gX2_kindOf_Jx29ce0_ordinal_8abf5_u48X10 : GoodIn wsX2_kindOf (va_wsU RX2 48 RX10 "java/lang/Enum" ⟨"PanelCopies$Word", "ordinal", "()I"⟩ yJx29ce0_ordinal_8abf5 wsJx29ce0_ordinal_8abf5) := goodIn_app (goodIn_of _ (by decide +kernel)) ggX2_kindOf_Jx29ce0_ordinal_8abf5
theorem dX2_kindOf_0 : decode cX2_kindOf 0 = .ok (.getstatic 38, 3) := by decide +kernel
theorem dX2_kindOf_3 : decode cX2_kindOf 3 = .ok (.aload_n 0, 1) := by decide +kernel
theorem dX2_kindOf_4 : decode cX2_kindOf 4 = .ok (.invokevirtual 48, 3) := by decide +kernel
theorem dX2_kindOf_7 : decode cX2_kindOf 7 = .ok (.iaload, 1) := by decide +kernel
theorem dX2_kindOf_8 : decode cX2_kindOf 8 = .ok (.tableswitch 40 7 10 #[32, 34, 36, 38], 32) := by decide +kernel
theorem dX2_kindOf_40 : decode cX2_kindOf 40 = .ok (.iconst 0, 1) := by decide +kernel
theorem dX2_kindOf_41 : decode cX2_kindOf 41 = .ok (.ireturn, 1) := by decide +kernel
theorem dX2_kindOf_42 : decode cX2_kindOf 42 = .ok (.iconst 1, 1) := by decide +kernel
theorem dX2_kindOf_43 : decode cX2_kindOf 43 = .ok (.ireturn, 1) := by decide +kernel
theorem dX2_kindOf_44 : decode cX2_kindOf 44 = .ok (.iconst 2, 1) := by decide +kernel
theorem dX2_kindOf_45 : decode cX2_kindOf 45 = .ok (.ireturn, 1) := by decide +kernel
theorem dX2_kindOf_46 : decode cX2_kindOf 46 = .ok (.iconst 3, 1) := by decide +kernel
theorem dX2_kindOf_47 : decode cX2_kindOf 47 = .ok (.ireturn, 1) := by decide +kernel
theorem dX2_kindOf_48 : decode cX2_kindOf 48 = .ok (.iconst (-1), 1) := by decide +kernel
theorem dX2_kindOf_49 : decode cX2_kindOf 49 = .ok (.ireturn, 1) := by decide +kernel
set_option maxRecDepth 20000 in
theorem ggX2_takeHours_X2_takeHour : GoodIn wsX2_takeHours wsX2_takeHour := goodIn_r _ [6, 1, 7, 8, 9, 10, 11, 12, 13, 14, 15, 16, 17, 18, 19, 20, 21, 22, 23, 24, 25, 26, 27, 5, 28, 29, 30, 31, 32, 33, 34, 35, 36, 37, 38, 39, 40, 41, 42, 43, 44, 45, 46, 47, 48, 49, 50, 51, 52, 53, 54] (by decide +kernel) (by decide +kernel)
set_option maxRecDepth 20000 in
theorem gX2_takeHours_X2_takeHour : GoodIn wsX2_takeHours (wsV RX2 148 RX2 yX2_takeHour wsX2_takeHour) := goodIn_app (goodIn_of _ (by decide +kernel)) ggX2_takeHours_X2_takeHour
set_option maxRecDepth 20000 in
theorem ggX2_takeHours_X8_isNumber : GoodIn wsX2_takeHours wsX8_isNumber := goodIn_r _ [11, 12, 13, 14, 47, 48, 49, 50, 51, 52, 53, 54] (by decide +kernel) (by decide +kernel)
set_option maxRecDepth 20000 in
theorem gX2_takeHours_X8_isNumber : GoodIn wsX2_takeHours (wsV RX2 151 RX8 yX8_isNumber wsX8_isNumber) := goodIn_app (goodIn_of _ (by decide +kernel)) ggX2_takeHours_X8_isNumber
theorem dX2_takeHours_0 : decode cX2_takeHours 0 = .ok (.aload_n 0, 1) := by decide +kernel
theorem dX2_takeHours_1 : decode cX2_takeHours 1 = .ok (.iconst 0, 1) := by decide +kernel
theorem dX2_takeHours_2 : decode cX2_takeHours 2 = .ok (.invokevirtual 148, 3) := by decide +kernel
theorem dX2_takeHours_5 : decode cX2_takeHours 5 = .ok (.istore_n 1, 1) := by decide +kernel
theorem dX2_takeHours_6 : decode cX2_takeHours 6 = .ok (.iconst 0, 1) := by decide +kernel
theorem dX2_takeHours_7 : decode cX2_takeHours 7 = .ok (.istore_n 2, 1) := by decide +kernel
theorem dX2_takeHours_8 : decode cX2_takeHours 8 = .ok (.iload_n 2, 1) := by decide +kernel
theorem dX2_takeHours_9 : decode cX2_takeHours 9 = .ok (.iconst 4, 1) := by decide +kernel
theorem dX2_takeHours_10 : decode cX2_takeHours 10 = .ok (.if_icmp .ge 27, 3) := by decide +kernel
theorem dX2_takeHours_13 : decode cX2_takeHours 13 = .ok (.aload_n 0, 1) := by decide +kernel
theorem dX2_takeHours_14 : decode cX2_takeHours 14 = .ok (.getfield 9, 3) := by decide +kernel
theorem dX2_takeHours_17 : decode cX2_takeHours 17 = .ok (.invokevirtual 151, 3) := by decide +kernel
theorem dX2_takeHours_20 : decode cX2_takeHours 20 = .ok (.ifCond .eq 17, 3) := by decide +kernel
theorem dX2_takeHours_23 : decode cX2_takeHours 23 = .ok (.iload_n 1, 1) := by decide +kernel
theorem dX2_takeHours_24 : decode cX2_takeHours 24 = .ok (.aload_n 0, 1) := by decide +kernel
theorem dX2_takeHours_25 : decode cX2_takeHours 25 = .ok (.iload_n 1, 1) := by decide +kernel
theorem dX2_takeHours_26 : decode cX2_takeHours 26 = .ok (.invokevirtual 148, 3) := by decide +kernel
theorem dX2_takeHours_29 : decode cX2_takeHours 29 = .ok (.ior, 1) := by decide +kernel
theorem dX2_takeHours_30 : decode cX2_takeHours 30 = .ok (.istore_n 1, 1) := by decide +kernel
theorem dX2_takeHours_31 : decode cX2_takeHours 31 = .ok (.iinc 2 1, 3) := by decide +kernel
theorem dX2_takeHours_34 : decode cX2_takeHours 34 = .ok (.goto (-26), 3) := by decide +kernel
theorem dX2_takeHours_37 : decode cX2_takeHours 37 = .ok (.iload_n 1, 1) := by decide +kernel
theorem dX2_takeHours_38 : decode cX2_takeHours 38 = .ok (.ireturn, 1) := by decide +kernel
set_option maxRecDepth 20000 in
theorem ggX2_takeHour_X8_isNumber : GoodIn wsX2_takeHour wsX8_isNumber := goodIn_r _ [6, 7, 8, 9, 43, 44, 45, 46, 47, 48, 49, 50] (by decide +kernel) (by decide +kernel)
set_option maxRecDepth 20000 in
theorem gX2_takeHour_X8_isNumber : GoodIn wsX2_takeHour (wsV RX2 151 RX8 yX8_isNumber wsX8_isNumber) := goodIn_app (goodIn_of _ (by decide +kernel)) ggX2_takeHour_X8_isNumber
set_option maxRecDepth 20000 in
theorem ggX2_takeHour_X8_fail : GoodIn wsX2_takeHour wsX8_fail := goodIn_r _ [13, 7, 14, 9, 43, 44, 45, 46, 47, 48, 49, 50] (by decide +kernel) (by decide +kernel)
set_option maxRecDepth 20000 in
theorem gX2_takeHour_X8_fail : GoodIn wsX2_takeHour (wsV RX2 73 RX8 yX8_fail wsX8_fail) := goodIn_app (goodIn_of _ (by decide +kernel)) ggX2_takeHour_X8_fail
set_option maxRecDepth 20000 in
theorem ggX2_takeHour_X8_number : GoodIn wsX2_takeHour wsX8_number := goodIn_r _ [18, 19, 9, 43, 44, 45, 46, 47, 48, 49, 50] (by decide +kernel) (by decide +kernel)
set_option maxRecDepth 20000 in
theorem gX2_takeHour_X8_number : GoodIn wsX2_takeHour (wsV RX2 154 RX8 yX8_number wsX8_number) := goodIn_app (goodIn_of _ (by decide +kernel)) ggX2_takeHour_X8_number
set_option maxRecDepth 20000 in
theorem ggX2_takeHour_X2_takeOnce : GoodIn wsX2_takeHour wsX2_takeOnce := goodIn_r _ [24, 1, 10, 11, 12, 5, 13, 7, 14, 9, 25, 26, 27, 28, 29, 30, 31, 32, 33, 34, 35, 36, 37, 38, 39, 8, 40, 41, 42, 43, 44, 45, 46, 47, 48, 49, 50] (by decide +kernel) (by decide +kernel)
set_option maxRecDepth 20000 in
theorem gX2_takeHour_X2_takeOnce : GoodIn wsX2_takeHour (wsV RX2 157 RX2 yX2_takeOnce wsX2_takeOnce) := goodIn_app (goodIn_of _ (by decide +kernel)) ggX2_takeHour_X2_takeOnce
theorem dX2_takeHour_0 : decode cX2_takeHour 0 = .ok (.aload_n 0, 1) := by decide +kernel
theorem dX2_takeHour_1 : decode cX2_takeHour 1 = .ok (.getfield 9, 3) := by decide +kernel
theorem dX2_takeHour_4 : decode cX2_takeHour 4 = .ok (.invokevirtual 151, 3) := by decide +kernel
theorem dX2_takeHour_7 : decode cX2_takeHour 7 = .ok (.ifCond .ne 13, 3) := by decide +kernel
theorem dX2_takeHour_10 : decode cX2_takeHour 10 = .ok (.aload_n 0, 1) := by decide +kernel
theorem dX2_takeHour_11 : decode cX2_takeHour 11 = .ok (.getfield 9, 3) := by decide +kernel
theorem dX2_takeHour_14 : decode cX2_takeHour 14 = .ok (.iconst 1, 1) := by decide +kernel
theorem dX2_takeHour_15 : decode cX2_takeHour 15 = .ok (.invokevirtual 73, 3) := by decide +kernel
theorem dX2_takeHour_18 : decode cX2_takeHour 18 = .ok (.iconst 0, 1) := by decide +kernel
theorem dX2_takeHour_19 : decode cX2_takeHour 19 = .ok (.ireturn, 1) := by decide +kernel
theorem dX2_takeHour_20 : decode cX2_takeHour 20 = .ok (.aload_n 0, 1) := by decide +kernel
theorem dX2_takeHour_21 : decode cX2_takeHour 21 = .ok (.getfield 9, 3) := by decide +kernel
theorem dX2_takeHour_24 : decode cX2_takeHour 24 = .ok (.invokevirtual 154, 3) := by decide +kernel
theorem dX2_takeHour_27 : decode cX2_takeHour 27 = .ok (.bipush 24, 2) := by decide +kernel
theorem dX2_takeHour_29 : decode cX2_takeHour 29 = .ok (.if_icmp .lt 13, 3) := by decide +kernel
theorem dX2_takeHour_32 : decode cX2_takeHour 32 = .ok (.aload_n 0, 1) := by decide +kernel
theorem dX2_takeHour_33 : decode cX2_takeHour 33 = .ok (.getfield 9, 3) := by decide +kernel
theorem dX2_takeHour_36 : decode cX2_takeHour 36 = .ok (.iconst 4, 1) := by decide +kernel
theorem dX2_takeHour_37 : decode cX2_takeHour 37 = .ok (.invokevirtual 73, 3) := by decide +kernel
theorem dX2_takeHour_40 : decode cX2_takeHour 40 = .ok (.iconst 0, 1) := by decide +kernel
theorem dX2_takeHour_41 : decode cX2_takeHour 41 = .ok (.ireturn, 1) := by decide +kernel
theorem dX2_takeHour_42 : decode cX2_takeHour 42 = .ok (.iconst 1, 1) := by decide +kernel
theorem dX2_takeHour_43 : decode cX2_takeHour 43 = .ok (.aload_n 0, 1) := by decide +kernel
theorem dX2_takeHour_44 : decode cX2_takeHour 44 = .ok (.getfield 9, 3) := by decide +kernel
theorem dX2_takeHour_47 : decode cX2_takeHour 47 = .ok (.invokevirtual 154, 3) := by decide +kernel
theorem dX2_takeHour_50 : decode cX2_takeHour 50 = .ok (.ishl, 1) := by decide +kernel
theorem dX2_takeHour_51 : decode cX2_takeHour 51 = .ok (.istore_n 2, 1) := by decide +kernel
theorem dX2_takeHour_52 : decode cX2_takeHour 52 = .ok (.aload_n 0, 1) := by decide +kernel
theorem dX2_takeHour_53 : decode cX2_takeHour 53 = .ok (.iload_n 1, 1) := by decide +kernel
theorem dX2_takeHour_54 : decode cX2_takeHour 54 = .ok (.iload_n 2, 1) := by decide +kernel
theorem dX2_takeHour_55 : decode cX2_takeHour 55 = .ok (.iconst 4, 1) := by decide +kernel
theorem dX2_takeHour_56 : decode cX2_takeHour 56 = .ok (.invokevirtual 157, 3) := by decide +kernel
theorem dX2_takeHour_59 : decode cX2_takeHour 59 = .ok (.iload_n 2, 1) := by decide +kernel
theorem dX2_takeHour_60 : decode cX2_takeHour 60 = .ok (.ireturn, 1) := by decide +kernel
set_option maxRecDepth 20000 in
theorem ggX2_takeOnce_X8_fail : GoodIn wsX2_takeOnce wsX8_fail := goodIn_r _ [6, 7, 8, 9, 29, 30, 31, 32, 33, 34, 35, 36] (by decide +kernel) (by decide +kernel)
set_option maxRecDepth 20000 in
theorem gX2_takeOnce_X8_fail : GoodIn wsX2_takeOnce (wsV RX2 73 RX8 yX8_fail wsX8_fail) := goodIn_app (goodIn_of _ (by decide +kernel)) ggX2_takeOnce_X8_fail
set_option maxRecDepth 20000 in
theorem ggX2_takeOnce_J6_bitCount_0f7a4 : GoodIn wsX2_takeOnce wsJ6_bitCount_0f7a4 := goodIn_r _ [13, 14, 15, 16] (by decide +kernel) (by decide +kernel)
set_option maxRecDepth 20000 in
theorem gX2_takeOnce_J6_bitCount_0f7a4 : GoodIn wsX2_takeOnce (va_wsS RX2 161 yJ6_bitCount_0f7a4 wsJ6_bitCount_0f7a4) := goodIn_app (goodIn_of _ (by decide +kernel)) ggX2_takeOnce_J6_bitCount_0f7a4
set_option maxRecDepth 20000 in
theorem ggX2_takeOnce_X8_stepOrFail : GoodIn wsX2_takeOnce wsX8_stepOrFail := goodIn_r _ [20, 21, 22, 23, 5, 24, 7, 25, 9, 26, 3, 4, 6, 8, 29, 30, 31, 32, 33, 34, 35, 36] (by decide +kernel) (by decide +kernel)
set_option maxRecDepth 20000 in
theorem gX2_takeOnce_X8_stepOrFail : GoodIn wsX2_takeOnce (wsV RX2 91 RX8 yX8_stepOrFail wsX8_stepOrFail) := goodIn_app (goodIn_of _ (by decide +kernel)) ggX2_takeOnce_X8_stepOrFail
theorem dX2_takeOnce_0 : decode cX2_takeOnce 0 = .ok (.iload_n 1, 1) := by decide +kernel
theorem dX2_takeOnce_1 : decode cX2_takeOnce 1 = .ok (.iload_n 2, 1) := by decide +kernel
theorem dX2_takeOnce_2 : decode cX2_takeOnce 2 = .ok (.iand, 1) := by decide +kernel
theorem dX2_takeOnce_3 : decode cX2_takeOnce 3 = .ok (.ifCond .eq 14, 3) := by decide +kernel
theorem dX2_takeOnce_6 : decode cX2_takeOnce 6 = .ok (.aload_n 0, 1) := by decide +kernel
theorem dX2_takeOnce_7 : decode cX2_takeOnce 7 = .ok (.getfield 9, 3) := by decide +kernel
theorem dX2_takeOnce_10 : decode cX2_takeOnce 10 = .ok (.iconst 3, 1) := by decide +kernel
theorem dX2_takeOnce_11 : decode cX2_takeOnce 11 = .ok (.invokevirtual 73, 3) := by decide +kernel
theorem dX2_takeOnce_14 : decode cX2_takeOnce 14 = .ok (.goto 24, 3) := by decide +kernel
theorem dX2_takeOnce_17 : decode cX2_takeOnce 17 = .ok (.aload_n 0, 1) := by decide +kernel
theorem dX2_takeOnce_18 : decode cX2_takeOnce 18 = .ok (.getfield 9, 3) := by decide +kernel
theorem dX2_takeOnce_21 : decode cX2_takeOnce 21 = .ok (.iload_n 1, 1) := by decide +kernel
theorem dX2_takeOnce_22 : decode cX2_takeOnce 22 = .ok (.invokestatic 161, 3) := by decide +kernel
theorem dX2_takeOnce_25 : decode cX2_takeOnce 25 = .ok (.iload_n 3, 1) := by decide +kernel
theorem dX2_takeOnce_26 : decode cX2_takeOnce 26 = .ok (.if_icmp .ge 7, 3) := by decide +kernel
theorem dX2_takeOnce_29 : decode cX2_takeOnce 29 = .ok (.iconst 1, 1) := by decide +kernel
theorem dX2_takeOnce_30 : decode cX2_takeOnce 30 = .ok (.goto 4, 3) := by decide +kernel
theorem dX2_takeOnce_33 : decode cX2_takeOnce 33 = .ok (.iconst 0, 1) := by decide +kernel
theorem dX2_takeOnce_34 : decode cX2_takeOnce 34 = .ok (.iconst 5, 1) := by decide +kernel
theorem dX2_takeOnce_35 : decode cX2_takeOnce 35 = .ok (.invokevirtual 91, 3) := by decide +kernel
theorem dX2_takeOnce_38 : decode cX2_takeOnce 38 = .ok (.return_, 1) := by decide +kernel
set_option maxRecDepth 20000 in
theorem ggX2_takeSpots_X2_takeSpot : GoodIn wsX2_takeSpots wsX2_takeSpot := goodIn_r _ [6, 1, 7, 8, 9, 10, 11, 12, 13, 14, 15, 16, 17, 18, 19, 20, 21, 22, 23, 24, 25, 26, 27, 28, 29, 30, 31, 32, 33, 34, 35, 36, 37, 38, 39, 40, 5, 41, 42, 43, 44, 45, 46, 47, 48, 49, 50, 51, 52, 53, 54, 55, 56, 57, 58, 60, 61, 62, 63, 64, 65, 66, 67, 68, 69, 70, 71, 72, 73, 74, 75, 76, 77, 78, 79, 80, 81, 82] (by decide +kernel) (by decide +kernel)
set_option maxRecDepth 20000 in
theorem gX2_takeSpots_X2_takeSpot : GoodIn wsX2_takeSpots (wsV RX2 166 RX2 yX2_takeSpot wsX2_takeSpot) := goodIn_app (goodIn_of _ (by decide +kernel)) ggX2_takeSpots_X2_takeSpot
set_option maxRecDepth 20000 in
theorem ggX2_takeSpots_X8_isName : GoodIn wsX2_takeSpots wsX8_isName := goodIn_r _ [21, 22, 23, 24, 75, 76, 77, 78, 79, 80, 81, 82] (by decide +kernel) (by decide +kernel)
set_option maxRecDepth 20000 in
theorem gX2_takeSpots_X8_isName : GoodIn wsX2_takeSpots (wsV RX2 84 RX8 yX8_isName wsX8_isName) := goodIn_app (goodIn_of _ (by decide +kernel)) ggX2_takeSpots_X8_isName
theorem dX2_takeSpots_0 : decode cX2_takeSpots 0 = .ok (.aload_n 0, 1) := by decide +kernel
theorem dX2_takeSpots_1 : decode cX2_takeSpots 1 = .ok (.aload_n 1, 1) := by decide +kernel
theorem dX2_takeSpots_2 : decode cX2_takeSpots 2 = .ok (.iconst 0, 1) := by decide +kernel
theorem dX2_takeSpots_3 : decode cX2_takeSpots 3 = .ok (.iload_n 2, 1) := by decide +kernel
theorem dX2_takeSpots_4 : decode cX2_takeSpots 4 = .ok (.invokevirtual 166, 3) := by decide +kernel
theorem dX2_takeSpots_7 : decode cX2_takeSpots 7 = .ok (.istore_n 3, 1) := by decide +kernel
theorem dX2_takeSpots_8 : decode cX2_takeSpots 8 = .ok (.iconst 0, 1) := by decide +kernel
theorem dX2_takeSpots_9 : decode cX2_takeSpots 9 = .ok (.istore 4, 2) := by decide +kernel
theorem dX2_takeSpots_11 : decode cX2_takeSpots 11 = .ok (.iload 4, 2) := by decide +kernel
theorem dX2_takeSpots_13 : decode cX2_takeSpots 13 = .ok (.iload_n 2, 1) := by decide +kernel
theorem dX2_takeSpots_14 : decode cX2_takeSpots 14 = .ok (.if_icmp .ge 29, 3) := by decide +kernel
theorem dX2_takeSpots_17 : decode cX2_takeSpots 17 = .ok (.aload_n 0, 1) := by decide +kernel
theorem dX2_takeSpots_18 : decode cX2_takeSpots 18 = .ok (.getfield 9, 3) := by decide +kernel
theorem dX2_takeSpots_21 : decode cX2_takeSpots 21 = .ok (.invokevirtual 84, 3) := by decide +kernel
theorem dX2_takeSpots_24 : decode cX2_takeSpots 24 = .ok (.ifCond .eq 19, 3) := by decide +kernel
theorem dX2_takeSpots_27 : decode cX2_takeSpots 27 = .ok (.iload_n 3, 1) := by decide +kernel
theorem dX2_takeSpots_28 : decode cX2_takeSpots 28 = .ok (.aload_n 0, 1) := by decide +kernel
theorem dX2_takeSpots_29 : decode cX2_takeSpots 29 = .ok (.aload_n 1, 1) := by decide +kernel
theorem dX2_takeSpots_30 : decode cX2_takeSpots 30 = .ok (.iload_n 3, 1) := by decide +kernel
theorem dX2_takeSpots_31 : decode cX2_takeSpots 31 = .ok (.iload_n 2, 1) := by decide +kernel
theorem dX2_takeSpots_32 : decode cX2_takeSpots 32 = .ok (.invokevirtual 166, 3) := by decide +kernel
theorem dX2_takeSpots_35 : decode cX2_takeSpots 35 = .ok (.ior, 1) := by decide +kernel
theorem dX2_takeSpots_36 : decode cX2_takeSpots 36 = .ok (.istore_n 3, 1) := by decide +kernel
theorem dX2_takeSpots_37 : decode cX2_takeSpots 37 = .ok (.iinc 4 1, 3) := by decide +kernel
theorem dX2_takeSpots_40 : decode cX2_takeSpots 40 = .ok (.goto (-29), 3) := by decide +kernel
theorem dX2_takeSpots_43 : decode cX2_takeSpots 43 = .ok (.iload_n 3, 1) := by decide +kernel
theorem dX2_takeSpots_44 : decode cX2_takeSpots 44 = .ok (.ireturn, 1) := by decide +kernel
set_option maxRecDepth 20000 in
theorem ggX2_takeSpot_X1_spotAt : GoodIn wsX2_takeSpot wsX1_spotAt := goodIn_r _ [6, 7, 8, 9, 10, 5, 11, 12, 13, 14, 15, 16, 17, 18, 19, 20, 21, 22, 23, 24, 25, 26, 27, 28, 29, 30, 31, 32, 57, 58, 59, 60, 61, 62, 63, 64, 65, 66, 67, 68, 69, 70, 71, 72, 73, 74, 75, 76, 77] (by decide +kernel) (by decide +kernel)
set_option maxRecDepth 20000 in
theorem gX2_takeSpot_X1_spotAt : GoodIn wsX2_takeSpot (wsV RX2 170 RX1 yX1_spotAt wsX1_spotAt) := goodIn_app (goodIn_of _ (by decide +kernel)) ggX2_takeSpot_X1_spotAt
set_option maxRecDepth 20000 in
theorem ggX2_takeSpot_X2_takeOnce : GoodIn wsX2_takeSpot wsX2_takeOnce := goodIn_r _ [37, 1, 38, 21, 22, 15, 23, 17, 24, 19, 39, 40, 41, 42, 43, 44, 45, 46, 47, 48, 49, 50, 51, 52, 53, 18, 54, 55, 56, 70, 71, 72, 73, 74, 75, 76, 77] (by decide +kernel) (by decide +kernel)
set_option maxRecDepth 20000 in
theorem gX2_takeSpot_X2_takeOnce : GoodIn wsX2_takeSpot (wsV RX2 157 RX2 yX2_takeOnce wsX2_takeOnce) := goodIn_app (goodIn_of _ (by decide +kernel)) ggX2_takeSpot_X2_takeOnce
theorem dX2_takeSpot_0 : decode cX2_takeSpot 0 = .ok (.aload_n 1, 1) := by decide +kernel
theorem dX2_takeSpot_1 : decode cX2_takeSpot 1 = .ok (.aload_n 0, 1) := by decide +kernel
theorem dX2_takeSpot_2 : decode cX2_takeSpot 2 = .ok (.getfield 9, 3) := by decide +kernel
theorem dX2_takeSpot_5 : decode cX2_takeSpot 5 = .ok (.invokevirtual 170, 3) := by decide +kernel
theorem dX2_takeSpot_8 : decode cX2_takeSpot 8 = .ok (.istore 4, 2) := by decide +kernel
theorem dX2_takeSpot_10 : decode cX2_takeSpot 10 = .ok (.iload 4, 2) := by decide +kernel
theorem dX2_takeSpot_12 : decode cX2_takeSpot 12 = .ok (.iconst (-1), 1) := by decide +kernel
theorem dX2_takeSpot_13 : decode cX2_takeSpot 13 = .ok (.if_icmp .ne 5, 3) := by decide +kernel
theorem dX2_takeSpot_16 : decode cX2_takeSpot 16 = .ok (.iconst 0, 1) := by decide +kernel
theorem dX2_takeSpot_17 : decode cX2_takeSpot 17 = .ok (.ireturn, 1) := by decide +kernel
theorem dX2_takeSpot_18 : decode cX2_takeSpot 18 = .ok (.aload_n 0, 1) := by decide +kernel
theorem dX2_takeSpot_19 : decode cX2_takeSpot 19 = .ok (.iload_n 2, 1) := by decide +kernel
theorem dX2_takeSpot_20 : decode cX2_takeSpot 20 = .ok (.iconst 1, 1) := by decide +kernel
theorem dX2_takeSpot_21 : decode cX2_takeSpot 21 = .ok (.iload 4, 2) := by decide +kernel
theorem dX2_takeSpot_23 : decode cX2_takeSpot 23 = .ok (.ishl, 1) := by decide +kernel
theorem dX2_takeSpot_24 : decode cX2_takeSpot 24 = .ok (.iload_n 3, 1) := by decide +kernel
theorem dX2_takeSpot_25 : decode cX2_takeSpot 25 = .ok (.invokevirtual 157, 3) := by decide +kernel
theorem dX2_takeSpot_28 : decode cX2_takeSpot 28 = .ok (.iconst 1, 1) := by decide +kernel
theorem dX2_takeSpot_29 : decode cX2_takeSpot 29 = .ok (.iload 4, 2) := by decide +kernel
theorem dX2_takeSpot_31 : decode cX2_takeSpot 31 = .ok (.ishl, 1) := by decide +kernel
theorem dX2_takeSpot_32 : decode cX2_takeSpot 32 = .ok (.ireturn, 1) := by decide +kernel
set_option maxRecDepth 20000 in
theorem ggX2_readCopy_X8_stepOrFail : GoodIn wsX2_readCopy wsX8_stepOrFail := goodIn_r _ [12, 13, 14, 15, 11, 16, 17, 18, 19, 20, 21, 22, 23, 24, 150, 151, 152, 153, 154, 155, 156, 157] (by decide +kernel) (by decide +kernel)
set_option maxRecDepth 20000 in
theorem gX2_readCopy_X8_stepOrFail : GoodIn wsX2_readCopy (wsV RX2 91 RX8 yX8_stepOrFail wsX8_stepOrFail) := goodIn_app (goodIn_of _ (by decide +kernel)) ggX2_readCopy_X8_stepOrFail
set_option maxRecDepth 20000 in
theorem ggX2_readCopy_X8_need_ : GoodIn wsX2_readCopy wsX8_need_ := goodIn_r _ [28, 29, 30, 31, 11, 32, 18, 19, 17, 33, 34, 13, 14, 15, 16, 20, 21, 22, 23, 24, 150, 151, 152, 153, 154, 155, 156, 157] (by decide +kernel) (by decide +kernel)
set_option maxRecDepth 20000 in
theorem gX2_readCopy_X8_need_ : GoodIn wsX2_readCopy (wsV RX2 124 RX8 yX8_need_ wsX8_need_) := goodIn_app (goodIn_of _ (by decide +kernel)) ggX2_readCopy_X8_need_
set_option maxRecDepth 20000 in
theorem ggX2_readCopy_X8_takeNumberBelow : GoodIn wsX2_readCopy wsX8_takeNumberBelow := goodIn_r _ [38, 39, 40, 41, 11, 42, 33, 19, 43, 44, 45, 46, 17, 18, 47, 9, 10, 12, 13, 14, 15, 16, 20, 21, 22, 23, 24, 150, 151, 152, 153, 154, 155, 156, 157] (by decide +kernel) (by decide +kernel)
set_option maxRecDepth 20000 in
theorem gX2_readCopy_X8_takeNumberBelow : GoodIn wsX2_readCopy (wsV RX2 127 RX8 yX8_takeNumberBelow wsX8_takeNumberBelow) := goodIn_app (goodIn_of _ (by decide +kernel)) ggX2_readCopy_X8_takeNumberBelow
set_option maxRecDepth 20000 in
theorem ggX2_readCopy_X2_takeSpots : GoodIn wsX2_readCopy wsX2_takeSpots := goodIn_r _ [52, 1, 53, 54, 55, 51, 56, 57, 58, 59, 60, 61, 62, 63, 64, 65, 66, 67, 68, 69, 11, 70, 17, 18, 19, 71, 21, 22, 23, 24, 72, 73, 74, 75, 33, 76, 77, 78, 79, 80, 81, 82, 83, 84, 85, 86, 87, 88, 89, 90, 8, 9, 10, 12, 13, 14, 15, 16, 20, 91, 122, 123, 124, 125, 126, 127, 128, 129, 130, 131, 132, 133, 134, 135, 136, 150, 151, 152, 153, 154, 155, 156, 157] (by decide +kernel) (by decide +kernel)
set_option maxRecDepth 20000 in
theorem gX2_readCopy_X2_takeSpots : GoodIn wsX2_readCopy (wsV RX2 189 RX2 yX2_takeSpots wsX2_takeSpots) := goodIn_app (goodIn_of _ (by decide +kernel)) ggX2_readCopy_X2_takeSpots
set_option maxRecDepth 20000 in
theorem ggX2_readCopy_X1_takeThief : GoodIn wsX2_readCopy wsX1_takeThief := goodIn_r _ [95, 96, 97, 64, 65, 60, 66, 67, 68, 69, 11, 70, 17, 18, 19, 71, 21, 22, 23, 24, 72, 73, 74, 75, 33, 76, 77, 78, 98, 14, 15, 16, 124, 125, 126, 127, 128, 129, 130, 131, 132, 133, 134, 135, 136, 150, 151, 152, 153, 154, 155, 156, 157] (by decide +kernel) (by decide +kernel)
set_option maxRecDepth 20000 in
theorem gX2_readCopy_X1_takeThief : GoodIn wsX2_readCopy (wsV RX2 196 RX1 yX1_takeThief wsX1_takeThief) := goodIn_app (goodIn_of _ (by decide +kernel)) ggX2_readCopy_X1_takeThief
set_option maxRecDepth 20000 in
theorem ggX2_readCopy_X8_need : GoodIn wsX2_readCopy wsX8_need := goodIn_r _ [102, 103, 104, 105, 11, 106, 17, 18, 19, 33, 13, 14, 15, 16, 20, 21, 22, 23, 24, 150, 151, 152, 153, 154, 155, 156, 157] (by decide +kernel) (by decide +kernel)
set_option maxRecDepth 20000 in
theorem gX2_readCopy_X8_need : GoodIn wsX2_readCopy (wsV RX2 103 RX8 yX8_need wsX8_need) := goodIn_app (goodIn_of _ (by decide +kernel)) ggX2_readCopy_X8_need
set_option maxRecDepth 20000 in
theorem ggX2_readCopy_X3_addPiece : GoodIn wsX2_readCopy wsX3_addPiece := goodIn_r _ [111, 112, 113, 114, 115, 116, 117, 118, 119, 120, 110, 121, 137, 138, 139, 140, 141, 142, 143, 144, 145, 146, 147, 148, 149] (by decide +kernel) (by decide +kernel)
set_option maxRecDepth 20000 in
theorem gX2_readCopy_X3_addPiece : GoodIn wsX2_readCopy (wsV RX2 199 RX3 yX3_addPiece wsX3_addPiece) := goodIn_app (goodIn_of _ (by decide +kernel)) ggX2_readCopy_X3_addPiece
theorem dX2_readCopy_0 : decode cX2_readCopy 0 = .ok (.aload_n 0, 1) := by decide +kernel
theorem dX2_readCopy_1 : decode cX2_readCopy 1 = .ok (.getfield 9, 3) := by decide +kernel
theorem dX2_readCopy_4 : decode cX2_readCopy 4 = .ok (.aload_n 1, 1) := by decide +kernel
theorem dX2_readCopy_5 : decode cX2_readCopy 5 = .ok (.getfield 174, 3) := by decide +kernel
theorem dX2_readCopy_8 : decode cX2_readCopy 8 = .ok (.getfield 178, 3) := by decide +kernel
theorem dX2_readCopy_11 : decode cX2_readCopy 11 = .ok (.bipush 8, 2) := by decide +kernel
theorem dX2_readCopy_13 : decode cX2_readCopy 13 = .ok (.if_icmp .ge 7, 3) := by decide +kernel
theorem dX2_readCopy_16 : decode cX2_readCopy 16 = .ok (.iconst 1, 1) := by decide +kernel
theorem dX2_readCopy_17 : decode cX2_readCopy 17 = .ok (.goto 4, 3) := by decide +kernel
theorem dX2_readCopy_20 : decode cX2_readCopy 20 = .ok (.iconst 0, 1) := by decide +kernel
theorem dX2_readCopy_21 : decode cX2_readCopy 21 = .ok (.iconst 5, 1) := by decide +kernel
theorem dX2_readCopy_22 : decode cX2_readCopy 22 = .ok (.invokevirtual 91, 3) := by decide +kernel
theorem dX2_readCopy_25 : decode cX2_readCopy 25 = .ok (.aload_n 0, 1) := by decide +kernel
theorem dX2_readCopy_26 : decode cX2_readCopy 26 = .ok (.getfield 9, 3) := by decide +kernel
theorem dX2_readCopy_29 : decode cX2_readCopy 29 = .ok (.getstatic 183, 3) := by decide +kernel
theorem dX2_readCopy_32 : decode cX2_readCopy 32 = .ok (.invokevirtual 124, 3) := by decide +kernel
theorem dX2_readCopy_35 : decode cX2_readCopy 35 = .ok (.aload_n 0, 1) := by decide +kernel
theorem dX2_readCopy_36 : decode cX2_readCopy 36 = .ok (.getfield 9, 3) := by decide +kernel
theorem dX2_readCopy_39 : decode cX2_readCopy 39 = .ok (.aload_n 1, 1) := by decide +kernel
theorem dX2_readCopy_40 : decode cX2_readCopy 40 = .ok (.getfield 174, 3) := by decide +kernel
theorem dX2_readCopy_43 : decode cX2_readCopy 43 = .ok (.getfield 178, 3) := by decide +kernel
theorem dX2_readCopy_46 : decode cX2_readCopy 46 = .ok (.invokevirtual 127, 3) := by decide +kernel
theorem dX2_readCopy_49 : decode cX2_readCopy 49 = .ok (.istore_n 2, 1) := by decide +kernel
theorem dX2_readCopy_50 : decode cX2_readCopy 50 = .ok (.aload_n 0, 1) := by decide +kernel
theorem dX2_readCopy_51 : decode cX2_readCopy 51 = .ok (.getfield 9, 3) := by decide +kernel
theorem dX2_readCopy_54 : decode cX2_readCopy 54 = .ok (.getstatic 186, 3) := by decide +kernel
theorem dX2_readCopy_57 : decode cX2_readCopy 57 = .ok (.invokevirtual 124, 3) := by decide +kernel
theorem dX2_readCopy_60 : decode cX2_readCopy 60 = .ok (.aload_n 0, 1) := by decide +kernel
theorem dX2_readCopy_61 : decode cX2_readCopy 61 = .ok (.aload_n 1, 1) := by decide +kernel
theorem dX2_readCopy_62 : decode cX2_readCopy 62 = .ok (.iconst 3, 1) := by decide +kernel
theorem dX2_readCopy_63 : decode cX2_readCopy 63 = .ok (.invokevirtual 189, 3) := by decide +kernel
theorem dX2_readCopy_66 : decode cX2_readCopy 66 = .ok (.istore_n 3, 1) := by decide +kernel
theorem dX2_readCopy_67 : decode cX2_readCopy 67 = .ok (.aload_n 0, 1) := by decide +kernel
theorem dX2_readCopy_68 : decode cX2_readCopy 68 = .ok (.getfield 9, 3) := by decide +kernel
theorem dX2_readCopy_71 : decode cX2_readCopy 71 = .ok (.getstatic 193, 3) := by decide +kernel
theorem dX2_readCopy_74 : decode cX2_readCopy 74 = .ok (.invokevirtual 124, 3) := by decide +kernel
theorem dX2_readCopy_77 : decode cX2_readCopy 77 = .ok (.aload_n 1, 1) := by decide +kernel
theorem dX2_readCopy_78 : decode cX2_readCopy 78 = .ok (.aload_n 0, 1) := by decide +kernel
theorem dX2_readCopy_79 : decode cX2_readCopy 79 = .ok (.getfield 9, 3) := by decide +kernel
theorem dX2_readCopy_82 : decode cX2_readCopy 82 = .ok (.invokevirtual 196, 3) := by decide +kernel
theorem dX2_readCopy_85 : decode cX2_readCopy 85 = .ok (.istore 4, 2) := by decide +kernel
theorem dX2_readCopy_87 : decode cX2_readCopy 87 = .ok (.aload_n 0, 1) := by decide +kernel
theorem dX2_readCopy_88 : decode cX2_readCopy 88 = .ok (.getfield 9, 3) := by decide +kernel
theorem dX2_readCopy_91 : decode cX2_readCopy 91 = .ok (.bipush 59, 2) := by decide +kernel
theorem dX2_readCopy_93 : decode cX2_readCopy 93 = .ok (.invokevirtual 103, 3) := by decide +kernel
theorem dX2_readCopy_96 : decode cX2_readCopy 96 = .ok (.aload_n 0, 1) := by decide +kernel
theorem dX2_readCopy_97 : decode cX2_readCopy 97 = .ok (.getfield 9, 3) := by decide +kernel
theorem dX2_readCopy_100 : decode cX2_readCopy 100 = .ok (.getfield 107, 3) := by decide +kernel
theorem dX2_readCopy_103 : decode cX2_readCopy 103 = .ok (.ifCond .ne 14, 3) := by decide +kernel
theorem dX2_readCopy_106 : decode cX2_readCopy 106 = .ok (.aload_n 1, 1) := by decide +kernel
theorem dX2_readCopy_107 : decode cX2_readCopy 107 = .ok (.getfield 174, 3) := by decide +kernel
theorem dX2_readCopy_110 : decode cX2_readCopy 110 = .ok (.iload_n 2, 1) := by decide +kernel
theorem dX2_readCopy_111 : decode cX2_readCopy 111 = .ok (.iload_n 3, 1) := by decide +kernel
theorem dX2_readCopy_112 : decode cX2_readCopy 112 = .ok (.iload 4, 2) := by decide +kernel
theorem dX2_readCopy_114 : decode cX2_readCopy 114 = .ok (.invokevirtual 199, 3) := by decide +kernel
theorem dX2_readCopy_117 : decode cX2_readCopy 117 = .ok (.return_, 1) := by decide +kernel
set_option maxRecDepth 20000 in
theorem ggX2_readExpert_X8_stepOrFail : GoodIn wsX2_readExpert wsX8_stepOrFail := goodIn_r _ [9, 10, 11, 12, 8, 13, 14, 15, 16, 17, 18, 19, 20, 21, 117, 118, 119, 120, 121, 122, 123, 124] (by decide +kernel) (by decide +kernel)
set_option maxRecDepth 20000 in
theorem gX2_readExpert_X8_stepOrFail : GoodIn wsX2_readExpert (wsV RX2 91 RX8 yX8_stepOrFail wsX8_stepOrFail) := goodIn_app (goodIn_of _ (by decide +kernel)) ggX2_readExpert_X8_stepOrFail
set_option maxRecDepth 20000 in
theorem ggX2_readExpert_X2_takeNewName : GoodIn wsX2_readExpert wsX2_takeNewName := goodIn_r _ [26, 1, 27, 28, 29, 8, 30, 31, 16, 32, 33, 34, 35, 14, 15, 36, 18, 19, 20, 21, 37, 38, 39, 40, 41, 42, 43, 44, 45, 46, 47, 48, 49, 50, 5, 6, 7, 9, 10, 11, 12, 13, 17, 102, 103, 117, 118, 119, 120, 121, 122, 123, 124, 104, 105, 106, 107, 108, 109, 110, 111, 112, 113, 114, 115, 116] (by decide +kernel) (by decide +kernel)
set_option maxRecDepth 20000 in
theorem gX2_readExpert_X2_takeNewName : GoodIn wsX2_readExpert (wsV RX2 99 RX2 yX2_takeNewName wsX2_takeNewName) := goodIn_app (goodIn_of _ (by decide +kernel)) ggX2_readExpert_X2_takeNewName
set_option maxRecDepth 20000 in
theorem ggX2_readExpert_X8_need_ : GoodIn wsX2_readExpert wsX8_need_ := goodIn_r _ [54, 55, 56, 57, 8, 58, 15, 16, 14, 31, 59, 10, 11, 12, 13, 17, 18, 19, 20, 21, 117, 118, 119, 120, 121, 122, 123, 124] (by decide +kernel) (by decide +kernel)
set_option maxRecDepth 20000 in
theorem gX2_readExpert_X8_need_ : GoodIn wsX2_readExpert (wsV RX2 124 RX8 yX8_need_ wsX8_need_) := goodIn_app (goodIn_of _ (by decide +kernel)) ggX2_readExpert_X8_need_
set_option maxRecDepth 20000 in
theorem ggX2_readExpert_X2_takeSpots : GoodIn wsX2_readExpert wsX2_takeSpots := goodIn_r _ [63, 1, 64, 65, 66, 25, 67, 68, 69, 70, 40, 71, 42, 43, 72, 73, 74, 75, 33, 34, 8, 35, 14, 15, 16, 76, 18, 19, 20, 21, 77, 28, 29, 30, 31, 48, 49, 50, 78, 79, 80, 81, 36, 82, 83, 84, 85, 86, 87, 88, 5, 6, 7, 9, 10, 11, 12, 13, 17, 32, 102, 103, 104, 105, 106, 107, 108, 109, 110, 111, 112, 113, 114, 115, 116, 117, 118, 119, 120, 121, 122, 123, 124] (by decide +kernel) (by decide +kernel)
set_option maxRecDepth 20000 in
theorem gX2_readExpert_X2_takeSpots : GoodIn wsX2_readExpert (wsV RX2 189 RX2 yX2_takeSpots wsX2_takeSpots) := goodIn_app (goodIn_of _ (by decide +kernel)) ggX2_readExpert_X2_takeSpots
set_option maxRecDepth 20000 in
theorem ggX2_readExpert_X8_need : GoodIn wsX2_readExpert wsX8_need := goodIn_r _ [92, 93, 94, 95, 8, 96, 14, 15, 16, 31, 10, 11, 12, 13, 17, 18, 19, 20, 21, 117, 118, 119, 120, 121, 122, 123, 124] (by decide +kernel) (by decide +kernel)
set_option maxRecDepth 20000 in
theorem gX2_readExpert_X8_need : GoodIn wsX2_readExpert (wsV RX2 103 RX8 yX8_need wsX8_need) := goodIn_app (goodIn_of _ (by decide +kernel)) ggX2_readExpert_X8_need
set_option maxRecDepth 20000 in
theorem ggX2_readExpert_X1_addExpert : GoodIn wsX2_readExpert wsX1_addExpert := goodIn_r _ [100, 47, 46, 101, 104, 105, 106, 107, 108, 109, 110, 111, 112, 113, 114, 115, 116] (by decide +kernel) (by decide +kernel)
set_option maxRecDepth 20000 in
theorem gX2_readExpert_X1_addExpert : GoodIn wsX2_readExpert (wsV RX2 208 RX1 yX1_addExpert wsX1_addExpert) := goodIn_app (goodIn_of _ (by decide +kernel)) ggX2_readExpert_X1_addExpert
theorem dX2_readExpert_0 : decode cX2_readExpert 0 = .ok (.aload_n 0, 1) := by decide +kernel
theorem dX2_readExpert_1 : decode cX2_readExpert 1 = .ok (.getfield 9, 3) := by decide +kernel
theorem dX2_readExpert_4 : decode cX2_readExpert 4 = .ok (.aload_n 1, 1) := by decide +kernel
theorem dX2_readExpert_5 : decode cX2_readExpert 5 = .ok (.getfield 202, 3) := by decide +kernel
theorem dX2_readExpert_8 : decode cX2_readExpert 8 = .ok (.iconst 4, 1) := by decide +kernel
theorem dX2_readExpert_9 : decode cX2_readExpert 9 = .ok (.if_icmp .ge 7, 3) := by decide +kernel
theorem dX2_readExpert_12 : decode cX2_readExpert 12 = .ok (.iconst 1, 1) := by decide +kernel
theorem dX2_readExpert_13 : decode cX2_readExpert 13 = .ok (.goto 4, 3) := by decide +kernel
theorem dX2_readExpert_16 : decode cX2_readExpert 16 = .ok (.iconst 0, 1) := by decide +kernel
theorem dX2_readExpert_17 : decode cX2_readExpert 17 = .ok (.iconst 5, 1) := by decide +kernel
theorem dX2_readExpert_18 : decode cX2_readExpert 18 = .ok (.invokevirtual 91, 3) := by decide +kernel
theorem dX2_readExpert_21 : decode cX2_readExpert 21 = .ok (.aload_n 0, 1) := by decide +kernel
theorem dX2_readExpert_22 : decode cX2_readExpert 22 = .ok (.aload_n 1, 1) := by decide +kernel
theorem dX2_readExpert_23 : decode cX2_readExpert 23 = .ok (.invokevirtual 99, 3) := by decide +kernel
theorem dX2_readExpert_26 : decode cX2_readExpert 26 = .ok (.lstore_n 2, 1) := by decide +kernel
theorem dX2_readExpert_27 : decode cX2_readExpert 27 = .ok (.aload_n 0, 1) := by decide +kernel
theorem dX2_readExpert_28 : decode cX2_readExpert 28 = .ok (.getfield 9, 3) := by decide +kernel
theorem dX2_readExpert_31 : decode cX2_readExpert 31 = .ok (.getstatic 205, 3) := by decide +kernel
theorem dX2_readExpert_34 : decode cX2_readExpert 34 = .ok (.invokevirtual 124, 3) := by decide +kernel
theorem dX2_readExpert_37 : decode cX2_readExpert 37 = .ok (.aload_n 0, 1) := by decide +kernel
theorem dX2_readExpert_38 : decode cX2_readExpert 38 = .ok (.aload_n 1, 1) := by decide +kernel
theorem dX2_readExpert_39 : decode cX2_readExpert 39 = .ok (.iconst 4, 1) := by decide +kernel
theorem dX2_readExpert_40 : decode cX2_readExpert 40 = .ok (.invokevirtual 189, 3) := by decide +kernel
theorem dX2_readExpert_43 : decode cX2_readExpert 43 = .ok (.istore 4, 2) := by decide +kernel
theorem dX2_readExpert_45 : decode cX2_readExpert 45 = .ok (.aload_n 0, 1) := by decide +kernel
theorem dX2_readExpert_46 : decode cX2_readExpert 46 = .ok (.getfield 9, 3) := by decide +kernel
theorem dX2_readExpert_49 : decode cX2_readExpert 49 = .ok (.bipush 59, 2) := by decide +kernel
theorem dX2_readExpert_51 : decode cX2_readExpert 51 = .ok (.invokevirtual 103, 3) := by decide +kernel
theorem dX2_readExpert_54 : decode cX2_readExpert 54 = .ok (.aload_n 0, 1) := by decide +kernel
theorem dX2_readExpert_55 : decode cX2_readExpert 55 = .ok (.getfield 9, 3) := by decide +kernel
theorem dX2_readExpert_58 : decode cX2_readExpert 58 = .ok (.getfield 107, 3) := by decide +kernel
theorem dX2_readExpert_61 : decode cX2_readExpert 61 = .ok (.ifCond .ne 10, 3) := by decide +kernel
theorem dX2_readExpert_64 : decode cX2_readExpert 64 = .ok (.aload_n 1, 1) := by decide +kernel
theorem dX2_readExpert_65 : decode cX2_readExpert 65 = .ok (.lload_n 2, 1) := by decide +kernel
theorem dX2_readExpert_66 : decode cX2_readExpert 66 = .ok (.iload 4, 2) := by decide +kernel
theorem dX2_readExpert_68 : decode cX2_readExpert 68 = .ok (.invokevirtual 208, 3) := by decide +kernel
theorem dX2_readExpert_71 : decode cX2_readExpert 71 = .ok (.return_, 1) := by decide +kernel
set_option maxRecDepth 20000 in
theorem ggX2_readWorth_X8_stepOrFail : GoodIn wsX2_readWorth wsX8_stepOrFail := goodIn_r _ [9, 10, 11, 12, 8, 13, 14, 15, 16, 17, 18, 19, 20, 21, 139, 140, 141, 142, 143, 144, 145, 146] (by decide +kernel) (by decide +kernel)
set_option maxRecDepth 20000 in
theorem gX2_readWorth_X8_stepOrFail : GoodIn wsX2_readWorth (wsV RX2 91 RX8 yX8_stepOrFail wsX8_stepOrFail) := goodIn_app (goodIn_of _ (by decide +kernel)) ggX2_readWorth_X8_stepOrFail
set_option maxRecDepth 20000 in
theorem ggX2_readWorth_X5_read : GoodIn wsX2_readWorth wsX5_read := goodIn_r _ [26, 27, 28, 29, 30, 31, 32, 33, 34, 35, 25, 36, 37, 38, 39, 40, 41, 42, 43, 44, 45, 8, 46, 15, 16, 14, 47, 48, 49, 11, 12, 13, 50, 51, 52, 53, 54, 55, 56, 57, 58, 59, 60, 61, 62, 63, 64, 65, 66, 67, 68, 69, 70, 18, 19, 20, 21, 71, 72, 73, 74, 75, 10, 17, 76, 77, 78, 79, 80, 81, 82, 83, 84, 85, 86, 87, 88, 89, 90, 91, 92, 93, 94, 95, 96, 97, 98, 99, 100, 101, 102, 103, 104, 105, 106, 107, 108, 109, 110, 111, 112, 113, 114, 115, 116, 117, 118, 119, 120, 121, 122, 147, 148, 149, 150, 151, 152, 139, 140, 141, 142, 143, 144, 145, 146] (by decide +kernel) (by decide +kernel)
set_option maxRecDepth 20000 in
theorem gX2_readWorth_X5_read : GoodIn wsX2_readWorth (wsV RX2 219 RX5 yX5_read wsX5_read) := goodIn_app (goodIn_of _ (by decide +kernel)) ggX2_readWorth_X5_read
set_option maxRecDepth 20000 in
theorem ggX2_readWorth_X8_need : GoodIn wsX2_readWorth wsX8_need := goodIn_r _ [74, 75, 57, 58, 8, 59, 14, 15, 16, 47, 10, 11, 12, 13, 17, 18, 19, 20, 21, 139, 140, 141, 142, 143, 144, 145, 146] (by decide +kernel) (by decide +kernel)
set_option maxRecDepth 20000 in
theorem gX2_readWorth_X8_need : GoodIn wsX2_readWorth (wsV RX2 103 RX8 yX8_need wsX8_need) := goodIn_app (goodIn_of _ (by decide +kernel)) ggX2_readWorth_X8_need
theorem dX2_readWorth_0 : decode cX2_readWorth 0 = .ok (.aload_n 0, 1) := by decide +kernel
theorem dX2_readWorth_1 : decode cX2_readWorth 1 = .ok (.getfield 9, 3) := by decide +kernel
theorem dX2_readWorth_4 : decode cX2_readWorth 4 = .ok (.aload_n 1, 1) := by decide +kernel
theorem dX2_readWorth_5 : decode cX2_readWorth 5 = .ok (.getfield 212, 3) := by decide +kernel
theorem dX2_readWorth_8 : decode cX2_readWorth 8 = .ok (.ifnonnull 7, 3) := by decide +kernel
theorem dX2_readWorth_11 : decode cX2_readWorth 11 = .ok (.iconst 1, 1) := by decide +kernel
theorem dX2_readWorth_12 : decode cX2_readWorth 12 = .ok (.goto 4, 3) := by decide +kernel
theorem dX2_readWorth_15 : decode cX2_readWorth 15 = .ok (.iconst 0, 1) := by decide +kernel
theorem dX2_readWorth_16 : decode cX2_readWorth 16 = .ok (.iconst 3, 1) := by decide +kernel
theorem dX2_readWorth_17 : decode cX2_readWorth 17 = .ok (.invokevirtual 91, 3) := by decide +kernel
theorem dX2_readWorth_20 : decode cX2_readWorth 20 = .ok (.aload_n 1, 1) := by decide +kernel
theorem dX2_readWorth_21 : decode cX2_readWorth 21 = .ok (.aload_n 0, 1) := by decide +kernel
theorem dX2_readWorth_22 : decode cX2_readWorth 22 = .ok (.getfield 20, 3) := by decide +kernel
theorem dX2_readWorth_25 : decode cX2_readWorth 25 = .ok (.getstatic 216, 3) := by decide +kernel
theorem dX2_readWorth_28 : decode cX2_readWorth 28 = .ok (.invokevirtual 219, 3) := by decide +kernel
theorem dX2_readWorth_31 : decode cX2_readWorth 31 = .ok (.putfield 212, 3) := by decide +kernel
theorem dX2_readWorth_34 : decode cX2_readWorth 34 = .ok (.aload_n 0, 1) := by decide +kernel
theorem dX2_readWorth_35 : decode cX2_readWorth 35 = .ok (.getfield 9, 3) := by decide +kernel
theorem dX2_readWorth_38 : decode cX2_readWorth 38 = .ok (.bipush 59, 2) := by decide +kernel
theorem dX2_readWorth_40 : decode cX2_readWorth 40 = .ok (.invokevirtual 103, 3) := by decide +kernel
theorem dX2_readWorth_43 : decode cX2_readWorth 43 = .ok (.return_, 1) := by decide +kernel
set_option maxRecDepth 20000 in
theorem ggX2_readHard_X8_stepOrFail : GoodIn wsX2_readHard wsX8_stepOrFail := goodIn_r _ [9, 10, 11, 12, 8, 13, 14, 15, 16, 17, 18, 19, 20, 21, 139, 140, 141, 142, 143, 144, 145, 146] (by decide +kernel) (by decide +kernel)
set_option maxRecDepth 20000 in
theorem gX2_readHard_X8_stepOrFail : GoodIn wsX2_readHard (wsV RX2 91 RX8 yX8_stepOrFail wsX8_stepOrFail) := goodIn_app (goodIn_of _ (by decide +kernel)) ggX2_readHard_X8_stepOrFail
set_option maxRecDepth 20000 in
theorem ggX2_readHard_X5_read : GoodIn wsX2_readHard wsX5_read := goodIn_r _ [26, 27, 28, 29, 30, 31, 32, 33, 34, 35, 25, 36, 37, 38, 39, 40, 41, 42, 43, 44, 45, 8, 46, 15, 16, 14, 47, 48, 49, 11, 12, 13, 50, 51, 52, 53, 54, 55, 56, 57, 58, 59, 60, 61, 62, 63, 64, 65, 66, 67, 68, 69, 70, 18, 19, 20, 21, 71, 72, 73, 74, 75, 10, 17, 76, 77, 78, 79, 80, 81, 82, 83, 84, 85, 86, 87, 88, 89, 90, 91, 92, 93, 94, 95, 96, 97, 98, 99, 100, 101, 102, 103, 104, 105, 106, 107, 108, 109, 110, 111, 112, 113, 114, 115, 116, 117, 118, 119, 120, 121, 122, 147, 148, 149, 150, 151, 152, 139, 140, 141, 142, 143, 144, 145, 146] (by decide +kernel) (by decide +kernel)
set_option maxRecDepth 20000 in
theorem gX2_readHard_X5_read : GoodIn wsX2_readHard (wsV RX2 219 RX5 yX5_read wsX5_read) := goodIn_app (goodIn_of _ (by decide +kernel)) ggX2_readHard_X5_read
set_option maxRecDepth 20000 in
theorem ggX2_readHard_X8_need : GoodIn wsX2_readHard wsX8_need := goodIn_r _ [74, 75, 57, 58, 8, 59, 14, 15, 16, 47, 10, 11, 12, 13, 17, 18, 19, 20, 21, 139, 140, 141, 142, 143, 144, 145, 146] (by decide +kernel) (by decide +kernel)
set_option maxRecDepth 20000 in
theorem gX2_readHard_X8_need : GoodIn wsX2_readHard (wsV RX2 103 RX8 yX8_need wsX8_need) := goodIn_app (goodIn_of _ (by decide +kernel)) ggX2_readHard_X8_need
theorem dX2_readHard_0 : decode cX2_readHard 0 = .ok (.aload_n 0, 1) := by decide +kernel
theorem dX2_readHard_1 : decode cX2_readHard 1 = .ok (.getfield 9, 3) := by decide +kernel
theorem dX2_readHard_4 : decode cX2_readHard 4 = .ok (.aload_n 1, 1) := by decide +kernel
theorem dX2_readHard_5 : decode cX2_readHard 5 = .ok (.getfield 223, 3) := by decide +kernel
theorem dX2_readHard_8 : decode cX2_readHard 8 = .ok (.ifnonnull 7, 3) := by decide +kernel
theorem dX2_readHard_11 : decode cX2_readHard 11 = .ok (.iconst 1, 1) := by decide +kernel
theorem dX2_readHard_12 : decode cX2_readHard 12 = .ok (.goto 4, 3) := by decide +kernel
theorem dX2_readHard_15 : decode cX2_readHard 15 = .ok (.iconst 0, 1) := by decide +kernel
theorem dX2_readHard_16 : decode cX2_readHard 16 = .ok (.iconst 3, 1) := by decide +kernel
theorem dX2_readHard_17 : decode cX2_readHard 17 = .ok (.invokevirtual 91, 3) := by decide +kernel
theorem dX2_readHard_20 : decode cX2_readHard 20 = .ok (.aload_n 1, 1) := by decide +kernel
theorem dX2_readHard_21 : decode cX2_readHard 21 = .ok (.aload_n 0, 1) := by decide +kernel
theorem dX2_readHard_22 : decode cX2_readHard 22 = .ok (.getfield 20, 3) := by decide +kernel
theorem dX2_readHard_25 : decode cX2_readHard 25 = .ok (.getstatic 226, 3) := by decide +kernel
theorem dX2_readHard_28 : decode cX2_readHard 28 = .ok (.invokevirtual 219, 3) := by decide +kernel
theorem dX2_readHard_31 : decode cX2_readHard 31 = .ok (.putfield 223, 3) := by decide +kernel
theorem dX2_readHard_34 : decode cX2_readHard 34 = .ok (.aload_n 0, 1) := by decide +kernel
theorem dX2_readHard_35 : decode cX2_readHard 35 = .ok (.getfield 9, 3) := by decide +kernel
theorem dX2_readHard_38 : decode cX2_readHard 38 = .ok (.bipush 59, 2) := by decide +kernel
theorem dX2_readHard_40 : decode cX2_readHard 40 = .ok (.invokevirtual 103, 3) := by decide +kernel
theorem dX2_readHard_43 : decode cX2_readHard 43 = .ok (.return_, 1) := by decide +kernel
set_option maxRecDepth 20000 in
theorem ggX3_init_X3_clear : GoodIn wsX3_init wsX3_clear := goodIn_r _ [22, 5, 6, 8, 7, 9, 10, 11, 12, 13, 14, 15, 16, 17, 23, 24, 25, 26, 27, 28, 29, 30, 31, 32, 33, 34, 35, 36, 37, 38, 39] (by decide +kernel) (by decide +kernel)
set_option maxRecDepth 20000 in
theorem gX3_init_X3_clear : GoodIn wsX3_init (wsV RX3 52 RX3 yX3_clear wsX3_clear) := goodIn_app (goodIn_of _ (by decide +kernel)) ggX3_init_X3_clear
theorem dX3_init_0 : decode cX3_init 0 = .ok (.aload_n 0, 1) := by decide +kernel
theorem dX3_init_1 : decode cX3_init 1 = .ok (.invokespecial 3, 3) := by decide +kernel
theorem dX3_init_4 : decode cX3_init 4 = .ok (.aload_n 0, 1) := by decide +kernel
theorem dX3_init_5 : decode cX3_init 5 = .ok (.bipush 8, 2) := by decide +kernel
theorem dX3_init_7 : decode cX3_init 7 = .ok (.newarray .int, 2) := by decide +kernel
theorem dX3_init_9 : decode cX3_init 9 = .ok (.putfield 9, 3) := by decide +kernel
theorem dX3_init_12 : decode cX3_init 12 = .ok (.aload_n 0, 1) := by decide +kernel
theorem dX3_init_13 : decode cX3_init 13 = .ok (.bipush 8, 2) := by decide +kernel
theorem dX3_init_15 : decode cX3_init 15 = .ok (.newarray .int, 2) := by decide +kernel
theorem dX3_init_17 : decode cX3_init 17 = .ok (.putfield 15, 3) := by decide +kernel
theorem dX3_init_20 : decode cX3_init 20 = .ok (.aload_n 0, 1) := by decide +kernel
theorem dX3_init_21 : decode cX3_init 21 = .ok (.bipush 8, 2) := by decide +kernel
theorem dX3_init_23 : decode cX3_init 23 = .ok (.newarray .int, 2) := by decide +kernel
theorem dX3_init_25 : decode cX3_init 25 = .ok (.putfield 18, 3) := by decide +kernel
theorem dX3_init_28 : decode cX3_init 28 = .ok (.aload_n 0, 1) := by decide +kernel
theorem dX3_init_29 : decode cX3_init 29 = .ok (.bipush 8, 2) := by decide +kernel
theorem dX3_init_31 : decode cX3_init 31 = .ok (.newarray .int, 2) := by decide +kernel
theorem dX3_init_33 : decode cX3_init 33 = .ok (.putfield 21, 3) := by decide +kernel
theorem dX3_init_36 : decode cX3_init 36 = .ok (.aload_n 0, 1) := by decide +kernel
theorem dX3_init_37 : decode cX3_init 37 = .ok (.bipush 8, 2) := by decide +kernel
theorem dX3_init_39 : decode cX3_init 39 = .ok (.newarray .int, 2) := by decide +kernel
theorem dX3_init_41 : decode cX3_init 41 = .ok (.putfield 24, 3) := by decide +kernel
theorem dX3_init_44 : decode cX3_init 44 = .ok (.aload_n 0, 1) := by decide +kernel
theorem dX3_init_45 : decode cX3_init 45 = .ok (.iconst 5, 1) := by decide +kernel
theorem dX3_init_46 : decode cX3_init 46 = .ok (.newarray .int, 2) := by decide +kernel
theorem dX3_init_48 : decode cX3_init 48 = .ok (.putfield 27, 3) := by decide +kernel
theorem dX3_init_51 : decode cX3_init 51 = .ok (.aload_n 0, 1) := by decide +kernel
theorem dX3_init_52 : decode cX3_init 52 = .ok (.iconst 0, 1) := by decide +kernel
theorem dX3_init_53 : decode cX3_init 53 = .ok (.putfield 30, 3) := by decide +kernel
theorem dX3_init_56 : decode cX3_init 56 = .ok (.aload_n 0, 1) := by decide +kernel
theorem dX3_init_57 : decode cX3_init 57 = .ok (.iconst 1, 1) := by decide +kernel
theorem dX3_init_58 : decode cX3_init 58 = .ok (.putfield 34, 3) := by decide +kernel
theorem dX3_init_61 : decode cX3_init 61 = .ok (.aload_n 0, 1) := by decide +kernel
theorem dX3_init_62 : decode cX3_init 62 = .ok (.iconst 0, 1) := by decide +kernel
theorem dX3_init_63 : decode cX3_init 63 = .ok (.putfield 37, 3) := by decide +kernel
theorem dX3_init_66 : decode cX3_init 66 = .ok (.aload_n 0, 1) := by decide +kernel
theorem dX3_init_67 : decode cX3_init 67 = .ok (.iconst 0, 1) := by decide +kernel
theorem dX3_init_68 : decode cX3_init 68 = .ok (.putfield 40, 3) := by decide +kernel
theorem dX3_init_71 : decode cX3_init 71 = .ok (.aload_n 0, 1) := by decide +kernel
theorem dX3_init_72 : decode cX3_init 72 = .ok (.iconst 0, 1) := by decide +kernel
theorem dX3_init_73 : decode cX3_init 73 = .ok (.putfield 43, 3) := by decide +kernel
theorem dX3_init_76 : decode cX3_init 76 = .ok (.aload_n 0, 1) := by decide +kernel
theorem dX3_init_77 : decode cX3_init 77 = .ok (.iconst 0, 1) := by decide +kernel
theorem dX3_init_78 : decode cX3_init 78 = .ok (.putfield 46, 3) := by decide +kernel
theorem dX3_init_81 : decode cX3_init 81 = .ok (.aload_n 0, 1) := by decide +kernel
theorem dX3_init_82 : decode cX3_init 82 = .ok (.iconst 0, 1) := by decide +kernel
theorem dX3_init_83 : decode cX3_init 83 = .ok (.putfield 49, 3) := by decide +kernel
theorem dX3_init_86 : decode cX3_init 86 = .ok (.aload_n 0, 1) := by decide +kernel
theorem dX3_init_87 : decode cX3_init 87 = .ok (.invokevirtual 52, 3) := by decide +kernel
theorem dX3_init_90 : decode cX3_init 90 = .ok (.return_, 1) := by decide +kernel
set_option maxRecDepth 20000 in
theorem ggX3_clear_J7_fill_53178 : GoodIn wsX3_clear wsJ7_fill_53178 := goodIn_r _ [17] (by decide +kernel) (by decide +kernel)
set_option maxRecDepth 20000 in
theorem gX3_clear_J7_fill_53178 : GoodIn wsX3_clear (va_wsS RX3 55 yJ7_fill_53178 wsJ7_fill_53178) := goodIn_app (goodIn_of _ (by decide +kernel)) ggX3_clear_J7_fill_53178
theorem dX3_clear_0 : decode cX3_clear 0 = .ok (.aload_n 0, 1) := by decide +kernel
theorem dX3_clear_1 : decode cX3_clear 1 = .ok (.getfield 9, 3) := by decide +kernel
theorem dX3_clear_4 : decode cX3_clear 4 = .ok (.iconst 0, 1) := by decide +kernel
theorem dX3_clear_5 : decode cX3_clear 5 = .ok (.iconst 0, 1) := by decide +kernel
theorem dX3_clear_6 : decode cX3_clear 6 = .ok (.iastore, 1) := by decide +kernel
theorem dX3_clear_7 : decode cX3_clear 7 = .ok (.aload_n 0, 1) := by decide +kernel
theorem dX3_clear_8 : decode cX3_clear 8 = .ok (.getfield 15, 3) := by decide +kernel
theorem dX3_clear_11 : decode cX3_clear 11 = .ok (.iconst 0, 1) := by decide +kernel
theorem dX3_clear_12 : decode cX3_clear 12 = .ok (.iconst 0, 1) := by decide +kernel
theorem dX3_clear_13 : decode cX3_clear 13 = .ok (.iastore, 1) := by decide +kernel
theorem dX3_clear_14 : decode cX3_clear 14 = .ok (.aload_n 0, 1) := by decide +kernel
theorem dX3_clear_15 : decode cX3_clear 15 = .ok (.getfield 21, 3) := by decide +kernel
theorem dX3_clear_18 : decode cX3_clear 18 = .ok (.iconst 0, 1) := by decide +kernel
theorem dX3_clear_19 : decode cX3_clear 19 = .ok (.iconst 0, 1) := by decide +kernel
theorem dX3_clear_20 : decode cX3_clear 20 = .ok (.iastore, 1) := by decide +kernel
theorem dX3_clear_21 : decode cX3_clear 21 = .ok (.aload_n 0, 1) := by decide +kernel
theorem dX3_clear_22 : decode cX3_clear 22 = .ok (.getfield 18, 3) := by decide +kernel
theorem dX3_clear_25 : decode cX3_clear 25 = .ok (.iconst 0, 1) := by decide +kernel
theorem dX3_clear_26 : decode cX3_clear 26 = .ok (.iconst (-1), 1) := by decide +kernel
theorem dX3_clear_27 : decode cX3_clear 27 = .ok (.iastore, 1) := by decide +kernel
theorem dX3_clear_28 : decode cX3_clear 28 = .ok (.aload_n 0, 1) := by decide +kernel
theorem dX3_clear_29 : decode cX3_clear 29 = .ok (.getfield 24, 3) := by decide +kernel
theorem dX3_clear_32 : decode cX3_clear 32 = .ok (.iconst 0, 1) := by decide +kernel
theorem dX3_clear_33 : decode cX3_clear 33 = .ok (.iconst 5, 1) := by decide +kernel
theorem dX3_clear_34 : decode cX3_clear 34 = .ok (.iastore, 1) := by decide +kernel
theorem dX3_clear_35 : decode cX3_clear 35 = .ok (.aload_n 0, 1) := by decide +kernel
theorem dX3_clear_36 : decode cX3_clear 36 = .ok (.getfield 27, 3) := by decide +kernel
theorem dX3_clear_39 : decode cX3_clear 39 = .ok (.iconst 0, 1) := by decide +kernel
theorem dX3_clear_40 : decode cX3_clear 40 = .ok (.invokestatic 55, 3) := by decide +kernel
theorem dX3_clear_43 : decode cX3_clear 43 = .ok (.aload_n 0, 1) := by decide +kernel
theorem dX3_clear_44 : decode cX3_clear 44 = .ok (.iconst 0, 1) := by decide +kernel
theorem dX3_clear_45 : decode cX3_clear 45 = .ok (.putfield 30, 3) := by decide +kernel
theorem dX3_clear_48 : decode cX3_clear 48 = .ok (.aload_n 0, 1) := by decide +kernel
theorem dX3_clear_49 : decode cX3_clear 49 = .ok (.iconst 1, 1) := by decide +kernel
theorem dX3_clear_50 : decode cX3_clear 50 = .ok (.putfield 34, 3) := by decide +kernel
theorem dX3_clear_53 : decode cX3_clear 53 = .ok (.aload_n 0, 1) := by decide +kernel
theorem dX3_clear_54 : decode cX3_clear 54 = .ok (.iconst 0, 1) := by decide +kernel
theorem dX3_clear_55 : decode cX3_clear 55 = .ok (.putfield 37, 3) := by decide +kernel
theorem dX3_clear_58 : decode cX3_clear 58 = .ok (.aload_n 0, 1) := by decide +kernel
theorem dX3_clear_59 : decode cX3_clear 59 = .ok (.iconst 0, 1) := by decide +kernel
theorem dX3_clear_60 : decode cX3_clear 60 = .ok (.putfield 40, 3) := by decide +kernel
theorem dX3_clear_63 : decode cX3_clear 63 = .ok (.aload_n 0, 1) := by decide +kernel
theorem dX3_clear_64 : decode cX3_clear 64 = .ok (.iconst 0, 1) := by decide +kernel
theorem dX3_clear_65 : decode cX3_clear 65 = .ok (.putfield 43, 3) := by decide +kernel
theorem dX3_clear_68 : decode cX3_clear 68 = .ok (.aload_n 0, 1) := by decide +kernel
theorem dX3_clear_69 : decode cX3_clear 69 = .ok (.iconst 0, 1) := by decide +kernel
theorem dX3_clear_70 : decode cX3_clear 70 = .ok (.putfield 46, 3) := by decide +kernel
theorem dX3_clear_73 : decode cX3_clear 73 = .ok (.aload_n 0, 1) := by decide +kernel
theorem dX3_clear_74 : decode cX3_clear 74 = .ok (.iconst 0, 1) := by decide +kernel
theorem dX3_clear_75 : decode cX3_clear 75 = .ok (.putfield 49, 3) := by decide +kernel
theorem dX3_clear_78 : decode cX3_clear 78 = .ok (.return_, 1) := by decide +kernel
set_option maxRecDepth 20000 in
theorem ggX3_takeAll_X3_takeNights : GoodIn wsX3_takeAll wsX3_takeNights := goodIn_r _ [8, 9, 10, 11, 12, 13, 14, 15, 16, 17, 18, 19, 20, 21, 22, 23, 24, 25, 26, 27, 28, 29, 30, 31, 32, 33, 34, 35] (by decide +kernel) (by decide +kernel)
set_option maxRecDepth 20000 in
theorem gX3_takeAll_X3_takeNights : GoodIn wsX3_takeAll (wsV RX3 61 RX3 yX3_takeNights wsX3_takeNights) := goodIn_app (goodIn_of _ (by decide +kernel)) ggX3_takeAll_X3_takeNights
theorem dX3_takeAll_0 : decode cX3_takeAll 0 = .ok (.aload_n 0, 1) := by decide +kernel
theorem dX3_takeAll_1 : decode cX3_takeAll 1 = .ok (.aload_n 1, 1) := by decide +kernel
theorem dX3_takeAll_2 : decode cX3_takeAll 2 = .ok (.invokevirtual 61, 3) := by decide +kernel
theorem dX3_takeAll_5 : decode cX3_takeAll 5 = .ok (.aload_n 0, 1) := by decide +kernel
theorem dX3_takeAll_6 : decode cX3_takeAll 6 = .ok (.aload_n 1, 1) := by decide +kernel
theorem dX3_takeAll_7 : decode cX3_takeAll 7 = .ok (.getfield 43, 3) := by decide +kernel
theorem dX3_takeAll_10 : decode cX3_takeAll 10 = .ok (.putfield 43, 3) := by decide +kernel
theorem dX3_takeAll_13 : decode cX3_takeAll 13 = .ok (.aload_n 0, 1) := by decide +kernel
theorem dX3_takeAll_14 : decode cX3_takeAll 14 = .ok (.aload_n 1, 1) := by decide +kernel
theorem dX3_takeAll_15 : decode cX3_takeAll 15 = .ok (.getfield 46, 3) := by decide +kernel
theorem dX3_takeAll_18 : decode cX3_takeAll 18 = .ok (.putfield 46, 3) := by decide +kernel
theorem dX3_takeAll_21 : decode cX3_takeAll 21 = .ok (.aload_n 0, 1) := by decide +kernel
theorem dX3_takeAll_22 : decode cX3_takeAll 22 = .ok (.aload_n 1, 1) := by decide +kernel
theorem dX3_takeAll_23 : decode cX3_takeAll 23 = .ok (.getfield 49, 3) := by decide +kernel
theorem dX3_takeAll_26 : decode cX3_takeAll 26 = .ok (.putfield 49, 3) := by decide +kernel
theorem dX3_takeAll_29 : decode cX3_takeAll 29 = .ok (.return_, 1) := by decide +kernel
theorem dX3_takeNights_0 : decode cX3_takeNights 0 = .ok (.aload_n 1, 1) := by decide +kernel
theorem dX3_takeNights_1 : decode cX3_takeNights 1 = .ok (.getfield 9, 3) := by decide +kernel
theorem dX3_takeNights_4 : decode cX3_takeNights 4 = .ok (.iconst 0, 1) := by decide +kernel
theorem dX3_takeNights_5 : decode cX3_takeNights 5 = .ok (.aload_n 0, 1) := by decide +kernel
theorem dX3_takeNights_6 : decode cX3_takeNights 6 = .ok (.getfield 9, 3) := by decide +kernel
theorem dX3_takeNights_9 : decode cX3_takeNights 9 = .ok (.iconst 0, 1) := by decide +kernel
theorem dX3_takeNights_10 : decode cX3_takeNights 10 = .ok (.bipush 8, 2) := by decide +kernel
theorem dX3_takeNights_12 : decode cX3_takeNights 12 = .ok (.invokestatic 65, 3) := by decide +kernel
theorem dX3_takeNights_15 : decode cX3_takeNights 15 = .ok (.aload_n 1, 1) := by decide +kernel
theorem dX3_takeNights_16 : decode cX3_takeNights 16 = .ok (.getfield 15, 3) := by decide +kernel
theorem dX3_takeNights_19 : decode cX3_takeNights 19 = .ok (.iconst 0, 1) := by decide +kernel
theorem dX3_takeNights_20 : decode cX3_takeNights 20 = .ok (.aload_n 0, 1) := by decide +kernel
theorem dX3_takeNights_21 : decode cX3_takeNights 21 = .ok (.getfield 15, 3) := by decide +kernel
theorem dX3_takeNights_24 : decode cX3_takeNights 24 = .ok (.iconst 0, 1) := by decide +kernel
theorem dX3_takeNights_25 : decode cX3_takeNights 25 = .ok (.bipush 8, 2) := by decide +kernel
theorem dX3_takeNights_27 : decode cX3_takeNights 27 = .ok (.invokestatic 65, 3) := by decide +kernel
theorem dX3_takeNights_30 : decode cX3_takeNights 30 = .ok (.aload_n 1, 1) := by decide +kernel
theorem dX3_takeNights_31 : decode cX3_takeNights 31 = .ok (.getfield 18, 3) := by decide +kernel
theorem dX3_takeNights_34 : decode cX3_takeNights 34 = .ok (.iconst 0, 1) := by decide +kernel
theorem dX3_takeNights_35 : decode cX3_takeNights 35 = .ok (.aload_n 0, 1) := by decide +kernel
theorem dX3_takeNights_36 : decode cX3_takeNights 36 = .ok (.getfield 18, 3) := by decide +kernel
theorem dX3_takeNights_39 : decode cX3_takeNights 39 = .ok (.iconst 0, 1) := by decide +kernel
theorem dX3_takeNights_40 : decode cX3_takeNights 40 = .ok (.bipush 8, 2) := by decide +kernel
theorem dX3_takeNights_42 : decode cX3_takeNights 42 = .ok (.invokestatic 65, 3) := by decide +kernel
theorem dX3_takeNights_45 : decode cX3_takeNights 45 = .ok (.aload_n 1, 1) := by decide +kernel
theorem dX3_takeNights_46 : decode cX3_takeNights 46 = .ok (.getfield 21, 3) := by decide +kernel
theorem dX3_takeNights_49 : decode cX3_takeNights 49 = .ok (.iconst 0, 1) := by decide +kernel
theorem dX3_takeNights_50 : decode cX3_takeNights 50 = .ok (.aload_n 0, 1) := by decide +kernel
theorem dX3_takeNights_51 : decode cX3_takeNights 51 = .ok (.getfield 21, 3) := by decide +kernel
theorem dX3_takeNights_54 : decode cX3_takeNights 54 = .ok (.iconst 0, 1) := by decide +kernel
theorem dX3_takeNights_55 : decode cX3_takeNights 55 = .ok (.bipush 8, 2) := by decide +kernel
theorem dX3_takeNights_57 : decode cX3_takeNights 57 = .ok (.invokestatic 65, 3) := by decide +kernel
theorem dX3_takeNights_60 : decode cX3_takeNights 60 = .ok (.aload_n 1, 1) := by decide +kernel
theorem dX3_takeNights_61 : decode cX3_takeNights 61 = .ok (.getfield 24, 3) := by decide +kernel
theorem dX3_takeNights_64 : decode cX3_takeNights 64 = .ok (.iconst 0, 1) := by decide +kernel
theorem dX3_takeNights_65 : decode cX3_takeNights 65 = .ok (.aload_n 0, 1) := by decide +kernel
theorem dX3_takeNights_66 : decode cX3_takeNights 66 = .ok (.getfield 24, 3) := by decide +kernel
theorem dX3_takeNights_69 : decode cX3_takeNights 69 = .ok (.iconst 0, 1) := by decide +kernel
theorem dX3_takeNights_70 : decode cX3_takeNights 70 = .ok (.bipush 8, 2) := by decide +kernel
theorem dX3_takeNights_72 : decode cX3_takeNights 72 = .ok (.invokestatic 65, 3) := by decide +kernel
theorem dX3_takeNights_75 : decode cX3_takeNights 75 = .ok (.aload_n 1, 1) := by decide +kernel
theorem dX3_takeNights_76 : decode cX3_takeNights 76 = .ok (.getfield 27, 3) := by decide +kernel
theorem dX3_takeNights_79 : decode cX3_takeNights 79 = .ok (.iconst 0, 1) := by decide +kernel
theorem dX3_takeNights_80 : decode cX3_takeNights 80 = .ok (.aload_n 0, 1) := by decide +kernel
theorem dX3_takeNights_81 : decode cX3_takeNights 81 = .ok (.getfield 27, 3) := by decide +kernel
theorem dX3_takeNights_84 : decode cX3_takeNights 84 = .ok (.iconst 0, 1) := by decide +kernel
theorem dX3_takeNights_85 : decode cX3_takeNights 85 = .ok (.iconst 5, 1) := by decide +kernel
theorem dX3_takeNights_86 : decode cX3_takeNights 86 = .ok (.invokestatic 65, 3) := by decide +kernel
theorem dX3_takeNights_89 : decode cX3_takeNights 89 = .ok (.aload_n 0, 1) := by decide +kernel
theorem dX3_takeNights_90 : decode cX3_takeNights 90 = .ok (.aload_n 1, 1) := by decide +kernel
theorem dX3_takeNights_91 : decode cX3_takeNights 91 = .ok (.getfield 30, 3) := by decide +kernel
theorem dX3_takeNights_94 : decode cX3_takeNights 94 = .ok (.putfield 30, 3) := by decide +kernel
theorem dX3_takeNights_97 : decode cX3_takeNights 97 = .ok (.aload_n 0, 1) := by decide +kernel
theorem dX3_takeNights_98 : decode cX3_takeNights 98 = .ok (.aload_n 1, 1) := by decide +kernel
theorem dX3_takeNights_99 : decode cX3_takeNights 99 = .ok (.getfield 34, 3) := by decide +kernel
theorem dX3_takeNights_102 : decode cX3_takeNights 102 = .ok (.putfield 34, 3) := by decide +kernel
theorem dX3_takeNights_105 : decode cX3_takeNights 105 = .ok (.aload_n 0, 1) := by decide +kernel
theorem dX3_takeNights_106 : decode cX3_takeNights 106 = .ok (.aload_n 1, 1) := by decide +kernel
theorem dX3_takeNights_107 : decode cX3_takeNights 107 = .ok (.getfield 37, 3) := by decide +kernel
theorem dX3_takeNights_110 : decode cX3_takeNights 110 = .ok (.putfield 37, 3) := by decide +kernel
theorem dX3_takeNights_113 : decode cX3_takeNights 113 = .ok (.aload_n 0, 1) := by decide +kernel
theorem dX3_takeNights_114 : decode cX3_takeNights 114 = .ok (.aload_n 1, 1) := by decide +kernel
theorem dX3_takeNights_115 : decode cX3_takeNights 115 = .ok (.getfield 40, 3) := by decide +kernel
theorem dX3_takeNights_118 : decode cX3_takeNights 118 = .ok (.putfield 40, 3) := by decide +kernel
theorem dX3_takeNights_121 : decode cX3_takeNights 121 = .ok (.return_, 1) := by decide +kernel
set_option maxRecDepth 20000 in
theorem ggX3_addPiece_X3_isThere : GoodIn wsX3_addPiece wsX3_isThere := goodIn_r _ [11, 1, 12, 13, 14, 15, 16, 17, 18, 19, 20, 21, 22, 23, 24] (by decide +kernel) (by decide +kernel)
set_option maxRecDepth 20000 in
theorem gX3_addPiece_X3_isThere : GoodIn wsX3_addPiece (wsV RX3 71 RX3 yX3_isThere wsX3_isThere) := goodIn_app (goodIn_of _ (by decide +kernel)) ggX3_addPiece_X3_isThere
theorem dX3_addPiece_0 : decode cX3_addPiece 0 = .ok (.aload_n 0, 1) := by decide +kernel
theorem dX3_addPiece_1 : decode cX3_addPiece 1 = .ok (.getfield 34, 3) := by decide +kernel
theorem dX3_addPiece_4 : decode cX3_addPiece 4 = .ok (.bipush 8, 2) := by decide +kernel
theorem dX3_addPiece_6 : decode cX3_addPiece 6 = .ok (.if_icmp .ge 78, 3) := by decide +kernel
theorem dX3_addPiece_9 : decode cX3_addPiece 9 = .ok (.aload_n 0, 1) := by decide +kernel
theorem dX3_addPiece_10 : decode cX3_addPiece 10 = .ok (.iload_n 1, 1) := by decide +kernel
theorem dX3_addPiece_11 : decode cX3_addPiece 11 = .ok (.invokevirtual 71, 3) := by decide +kernel
theorem dX3_addPiece_14 : decode cX3_addPiece 14 = .ok (.ifCond .eq 70, 3) := by decide +kernel
theorem dX3_addPiece_17 : decode cX3_addPiece 17 = .ok (.aload_n 0, 1) := by decide +kernel
theorem dX3_addPiece_18 : decode cX3_addPiece 18 = .ok (.getfield 9, 3) := by decide +kernel
theorem dX3_addPiece_21 : decode cX3_addPiece 21 = .ok (.aload_n 0, 1) := by decide +kernel
theorem dX3_addPiece_22 : decode cX3_addPiece 22 = .ok (.getfield 34, 3) := by decide +kernel
theorem dX3_addPiece_25 : decode cX3_addPiece 25 = .ok (.aload_n 0, 1) := by decide +kernel
theorem dX3_addPiece_26 : decode cX3_addPiece 26 = .ok (.getfield 9, 3) := by decide +kernel
theorem dX3_addPiece_29 : decode cX3_addPiece 29 = .ok (.iload_n 1, 1) := by decide +kernel
theorem dX3_addPiece_30 : decode cX3_addPiece 30 = .ok (.iaload, 1) := by decide +kernel
theorem dX3_addPiece_31 : decode cX3_addPiece 31 = .ok (.iload_n 2, 1) := by decide +kernel
theorem dX3_addPiece_32 : decode cX3_addPiece 32 = .ok (.ixor, 1) := by decide +kernel
theorem dX3_addPiece_33 : decode cX3_addPiece 33 = .ok (.iastore, 1) := by decide +kernel
theorem dX3_addPiece_34 : decode cX3_addPiece 34 = .ok (.aload_n 0, 1) := by decide +kernel
theorem dX3_addPiece_35 : decode cX3_addPiece 35 = .ok (.getfield 15, 3) := by decide +kernel
theorem dX3_addPiece_38 : decode cX3_addPiece 38 = .ok (.aload_n 0, 1) := by decide +kernel
theorem dX3_addPiece_39 : decode cX3_addPiece 39 = .ok (.getfield 34, 3) := by decide +kernel
theorem dX3_addPiece_42 : decode cX3_addPiece 42 = .ok (.iload_n 2, 1) := by decide +kernel
theorem dX3_addPiece_43 : decode cX3_addPiece 43 = .ok (.iastore, 1) := by decide +kernel
theorem dX3_addPiece_44 : decode cX3_addPiece 44 = .ok (.aload_n 0, 1) := by decide +kernel
theorem dX3_addPiece_45 : decode cX3_addPiece 45 = .ok (.getfield 18, 3) := by decide +kernel
theorem dX3_addPiece_48 : decode cX3_addPiece 48 = .ok (.aload_n 0, 1) := by decide +kernel
theorem dX3_addPiece_49 : decode cX3_addPiece 49 = .ok (.getfield 34, 3) := by decide +kernel
theorem dX3_addPiece_52 : decode cX3_addPiece 52 = .ok (.iload_n 1, 1) := by decide +kernel
theorem dX3_addPiece_53 : decode cX3_addPiece 53 = .ok (.iastore, 1) := by decide +kernel
theorem dX3_addPiece_54 : decode cX3_addPiece 54 = .ok (.aload_n 0, 1) := by decide +kernel
theorem dX3_addPiece_55 : decode cX3_addPiece 55 = .ok (.getfield 21, 3) := by decide +kernel
theorem dX3_addPiece_58 : decode cX3_addPiece 58 = .ok (.aload_n 0, 1) := by decide +kernel
theorem dX3_addPiece_59 : decode cX3_addPiece 59 = .ok (.getfield 34, 3) := by decide +kernel
theorem dX3_addPiece_62 : decode cX3_addPiece 62 = .ok (.iconst 0, 1) := by decide +kernel
theorem dX3_addPiece_63 : decode cX3_addPiece 63 = .ok (.iastore, 1) := by decide +kernel
theorem dX3_addPiece_64 : decode cX3_addPiece 64 = .ok (.aload_n 0, 1) := by decide +kernel
theorem dX3_addPiece_65 : decode cX3_addPiece 65 = .ok (.getfield 24, 3) := by decide +kernel
theorem dX3_addPiece_68 : decode cX3_addPiece 68 = .ok (.aload_n 0, 1) := by decide +kernel
theorem dX3_addPiece_69 : decode cX3_addPiece 69 = .ok (.getfield 34, 3) := by decide +kernel
theorem dX3_addPiece_72 : decode cX3_addPiece 72 = .ok (.iload_n 3, 1) := by decide +kernel
theorem dX3_addPiece_73 : decode cX3_addPiece 73 = .ok (.iastore, 1) := by decide +kernel
theorem dX3_addPiece_74 : decode cX3_addPiece 74 = .ok (.aload_n 0, 1) := by decide +kernel
theorem dX3_addPiece_75 : decode cX3_addPiece 75 = .ok (.dup, 1) := by decide +kernel
theorem dX3_addPiece_76 : decode cX3_addPiece 76 = .ok (.getfield 34, 3) := by decide +kernel
theorem dX3_addPiece_79 : decode cX3_addPiece 79 = .ok (.iconst 1, 1) := by decide +kernel
theorem dX3_addPiece_80 : decode cX3_addPiece 80 = .ok (.iadd, 1) := by decide +kernel
theorem dX3_addPiece_81 : decode cX3_addPiece 81 = .ok (.putfield 34, 3) := by decide +kernel
theorem dX3_addPiece_84 : decode cX3_addPiece 84 = .ok (.return_, 1) := by decide +kernel
theorem dX3_isThere_0 : decode cX3_isThere 0 = .ok (.iload_n 1, 1) := by decide +kernel
theorem dX3_isThere_1 : decode cX3_isThere 1 = .ok (.ifCond .lt 15, 3) := by decide +kernel
theorem dX3_isThere_4 : decode cX3_isThere 4 = .ok (.iload_n 1, 1) := by decide +kernel
theorem dX3_isThere_5 : decode cX3_isThere 5 = .ok (.aload_n 0, 1) := by decide +kernel
theorem dX3_isThere_6 : decode cX3_isThere 6 = .ok (.getfield 34, 3) := by decide +kernel
theorem dX3_isThere_9 : decode cX3_isThere 9 = .ok (.if_icmp .ge 7, 3) := by decide +kernel
theorem dX3_isThere_12 : decode cX3_isThere 12 = .ok (.iconst 1, 1) := by decide +kernel
theorem dX3_isThere_13 : decode cX3_isThere 13 = .ok (.goto 4, 3) := by decide +kernel
theorem dX3_isThere_16 : decode cX3_isThere 16 = .ok (.iconst 0, 1) := by decide +kernel
theorem dX3_isThere_17 : decode cX3_isThere 17 = .ok (.ireturn, 1) := by decide +kernel
set_option maxRecDepth 20000 in
theorem ggX3_isHeld_X1_hasThief : GoodIn wsX3_isHeld wsX1_hasThief := goodIn_r _ [6, 7, 27, 28, 29, 30, 31, 32, 33, 34, 35, 36, 37, 38, 39] (by decide +kernel) (by decide +kernel)
set_option maxRecDepth 20000 in
theorem gX3_isHeld_X1_hasThief : GoodIn wsX3_isHeld (wsV RX3 75 RX1 yX1_hasThief wsX1_hasThief) := goodIn_app (goodIn_of _ (by decide +kernel)) ggX3_isHeld_X1_hasThief
set_option maxRecDepth 20000 in
theorem ggX3_isHeld_X3_isThere : GoodIn wsX3_isHeld wsX3_isThere := goodIn_r _ [12, 13, 14, 15, 16, 17, 18, 19, 20, 21, 22, 23, 24, 25, 26] (by decide +kernel) (by decide +kernel)
set_option maxRecDepth 20000 in
theorem gX3_isHeld_X3_isThere : GoodIn wsX3_isHeld (wsV RX3 71 RX3 yX3_isThere wsX3_isThere) := goodIn_app (goodIn_of _ (by decide +kernel)) ggX3_isHeld_X3_isThere
theorem dX3_isHeld_0 : decode cX3_isHeld 0 = .ok (.aload_n 1, 1) := by decide +kernel
theorem dX3_isHeld_1 : decode cX3_isHeld 1 = .ok (.iload_n 2, 1) := by decide +kernel
theorem dX3_isHeld_2 : decode cX3_isHeld 2 = .ok (.invokevirtual 75, 3) := by decide +kernel
theorem dX3_isHeld_5 : decode cX3_isHeld 5 = .ok (.ifCond .eq 25, 3) := by decide +kernel
theorem dX3_isHeld_8 : decode cX3_isHeld 8 = .ok (.aload_n 0, 1) := by decide +kernel
theorem dX3_isHeld_9 : decode cX3_isHeld 9 = .ok (.iload_n 3, 1) := by decide +kernel
theorem dX3_isHeld_10 : decode cX3_isHeld 10 = .ok (.invokevirtual 71, 3) := by decide +kernel
theorem dX3_isHeld_13 : decode cX3_isHeld 13 = .ok (.ifCond .eq 17, 3) := by decide +kernel
theorem dX3_isHeld_16 : decode cX3_isHeld 16 = .ok (.aload_n 0, 1) := by decide +kernel
theorem dX3_isHeld_17 : decode cX3_isHeld 17 = .ok (.getfield 24, 3) := by decide +kernel
theorem dX3_isHeld_20 : decode cX3_isHeld 20 = .ok (.iload_n 3, 1) := by decide +kernel
theorem dX3_isHeld_21 : decode cX3_isHeld 21 = .ok (.iaload, 1) := by decide +kernel
theorem dX3_isHeld_22 : decode cX3_isHeld 22 = .ok (.iload_n 2, 1) := by decide +kernel
theorem dX3_isHeld_23 : decode cX3_isHeld 23 = .ok (.if_icmp .ne 7, 3) := by decide +kernel
theorem dX3_isHeld_26 : decode cX3_isHeld 26 = .ok (.iconst 1, 1) := by decide +kernel
theorem dX3_isHeld_27 : decode cX3_isHeld 27 = .ok (.goto 4, 3) := by decide +kernel
theorem dX3_isHeld_30 : decode cX3_isHeld 30 = .ok (.iconst 0, 1) := by decide +kernel
theorem dX3_isHeld_31 : decode cX3_isHeld 31 = .ok (.ireturn, 1) := by decide +kernel
set_option maxRecDepth 20000 in
theorem ggX3_slipsOn_J6_bitCount_0f7a4 : GoodIn wsX3_slipsOn wsJ6_bitCount_0f7a4 := goodIn_r _ [5, 6, 7, 8] (by decide +kernel) (by decide +kernel)
set_option maxRecDepth 20000 in
theorem gX3_slipsOn_J6_bitCount_0f7a4 : GoodIn wsX3_slipsOn (va_wsS RX3 80 yJ6_bitCount_0f7a4 wsJ6_bitCount_0f7a4) := goodIn_app (goodIn_of _ (by decide +kernel)) ggX3_slipsOn_J6_bitCount_0f7a4
theorem dX3_slipsOn_0 : decode cX3_slipsOn 0 = .ok (.aload_n 0, 1) := by decide +kernel
theorem dX3_slipsOn_1 : decode cX3_slipsOn 1 = .ok (.getfield 9, 3) := by decide +kernel
theorem dX3_slipsOn_4 : decode cX3_slipsOn 4 = .ok (.iload_n 1, 1) := by decide +kernel
theorem dX3_slipsOn_5 : decode cX3_slipsOn 5 = .ok (.iaload, 1) := by decide +kernel
theorem dX3_slipsOn_6 : decode cX3_slipsOn 6 = .ok (.invokestatic 80, 3) := by decide +kernel
theorem dX3_slipsOn_9 : decode cX3_slipsOn 9 = .ok (.ireturn, 1) := by decide +kernel
set_option maxRecDepth 20000 in
theorem ggX3_apart_J6_bitCount_0f7a4 : GoodIn wsX3_apart wsJ6_bitCount_0f7a4 := goodIn_r _ [5, 6, 7, 8] (by decide +kernel) (by decide +kernel)
set_option maxRecDepth 20000 in
theorem gX3_apart_J6_bitCount_0f7a4 : GoodIn wsX3_apart (va_wsS RX3 80 yJ6_bitCount_0f7a4 wsJ6_bitCount_0f7a4) := goodIn_app (goodIn_of _ (by decide +kernel)) ggX3_apart_J6_bitCount_0f7a4
theorem dX3_apart_0 : decode cX3_apart 0 = .ok (.aload_n 0, 1) := by decide +kernel
theorem dX3_apart_1 : decode cX3_apart 1 = .ok (.getfield 9, 3) := by decide +kernel
theorem dX3_apart_4 : decode cX3_apart 4 = .ok (.iload_n 1, 1) := by decide +kernel
theorem dX3_apart_5 : decode cX3_apart 5 = .ok (.iaload, 1) := by decide +kernel
theorem dX3_apart_6 : decode cX3_apart 6 = .ok (.aload_n 0, 1) := by decide +kernel
theorem dX3_apart_7 : decode cX3_apart 7 = .ok (.getfield 9, 3) := by decide +kernel
theorem dX3_apart_10 : decode cX3_apart 10 = .ok (.iload_n 2, 1) := by decide +kernel
theorem dX3_apart_11 : decode cX3_apart 11 = .ok (.iaload, 1) := by decide +kernel
theorem dX3_apart_12 : decode cX3_apart 12 = .ok (.ixor, 1) := by decide +kernel
theorem dX3_apart_13 : decode cX3_apart 13 = .ok (.invokestatic 80, 3) := by decide +kernel
theorem dX3_apart_16 : decode cX3_apart 16 = .ok (.ireturn, 1) := by decide +kernel
theorem dX3_joins_0 : decode cX3_joins 0 = .ok (.iload_n 1, 1) := by decide +kernel
theorem dX3_joins_1 : decode cX3_joins 1 = .ok (.iload_n 3, 1) := by decide +kernel
theorem dX3_joins_2 : decode cX3_joins 2 = .ok (.if_icmp .eq 12, 3) := by decide +kernel
theorem dX3_joins_5 : decode cX3_joins 5 = .ok (.iload_n 2, 1) := by decide +kernel
theorem dX3_joins_6 : decode cX3_joins 6 = .ok (.iload_n 3, 1) := by decide +kernel
theorem dX3_joins_7 : decode cX3_joins 7 = .ok (.if_icmp .eq 7, 3) := by decide +kernel
theorem dX3_joins_10 : decode cX3_joins 10 = .ok (.iconst 1, 1) := by decide +kernel
theorem dX3_joins_11 : decode cX3_joins 11 = .ok (.goto 4, 3) := by decide +kernel
theorem dX3_joins_14 : decode cX3_joins 14 = .ok (.iconst 0, 1) := by decide +kernel
theorem dX3_joins_15 : decode cX3_joins 15 = .ok (.istore 4, 2) := by decide +kernel
theorem dX3_joins_17 : decode cX3_joins 17 = .ok (.iload 4, 2) := by decide +kernel
theorem dX3_joins_19 : decode cX3_joins 19 = .ok (.ifCond .eq 37, 3) := by decide +kernel
theorem dX3_joins_22 : decode cX3_joins 22 = .ok (.aload_n 0, 1) := by decide +kernel
theorem dX3_joins_23 : decode cX3_joins 23 = .ok (.getfield 9, 3) := by decide +kernel
theorem dX3_joins_26 : decode cX3_joins 26 = .ok (.iload_n 3, 1) := by decide +kernel
theorem dX3_joins_27 : decode cX3_joins 27 = .ok (.iaload, 1) := by decide +kernel
theorem dX3_joins_28 : decode cX3_joins 28 = .ok (.aload_n 0, 1) := by decide +kernel
theorem dX3_joins_29 : decode cX3_joins 29 = .ok (.getfield 9, 3) := by decide +kernel
theorem dX3_joins_32 : decode cX3_joins 32 = .ok (.iload_n 1, 1) := by decide +kernel
theorem dX3_joins_33 : decode cX3_joins 33 = .ok (.iaload, 1) := by decide +kernel
theorem dX3_joins_34 : decode cX3_joins 34 = .ok (.ixor, 1) := by decide +kernel
theorem dX3_joins_35 : decode cX3_joins 35 = .ok (.aload_n 0, 1) := by decide +kernel
theorem dX3_joins_36 : decode cX3_joins 36 = .ok (.getfield 9, 3) := by decide +kernel
theorem dX3_joins_39 : decode cX3_joins 39 = .ok (.iload_n 3, 1) := by decide +kernel
theorem dX3_joins_40 : decode cX3_joins 40 = .ok (.iaload, 1) := by decide +kernel
theorem dX3_joins_41 : decode cX3_joins 41 = .ok (.aload_n 0, 1) := by decide +kernel
theorem dX3_joins_42 : decode cX3_joins 42 = .ok (.getfield 9, 3) := by decide +kernel
theorem dX3_joins_45 : decode cX3_joins 45 = .ok (.iload_n 2, 1) := by decide +kernel
theorem dX3_joins_46 : decode cX3_joins 46 = .ok (.iaload, 1) := by decide +kernel
theorem dX3_joins_47 : decode cX3_joins 47 = .ok (.ixor, 1) := by decide +kernel
theorem dX3_joins_48 : decode cX3_joins 48 = .ok (.iand, 1) := by decide +kernel
theorem dX3_joins_49 : decode cX3_joins 49 = .ok (.ifCond .ne 7, 3) := by decide +kernel
theorem dX3_joins_52 : decode cX3_joins 52 = .ok (.iconst 1, 1) := by decide +kernel
theorem dX3_joins_53 : decode cX3_joins 53 = .ok (.goto 4, 3) := by decide +kernel
theorem dX3_joins_56 : decode cX3_joins 56 = .ok (.iconst 0, 1) := by decide +kernel
theorem dX3_joins_57 : decode cX3_joins 57 = .ok (.ireturn, 1) := by decide +kernel
theorem dX3_alike_0 : decode cX3_alike 0 = .ok (.iconst 0, 1) := by decide +kernel
theorem dX3_alike_1 : decode cX3_alike 1 = .ok (.istore_n 3, 1) := by decide +kernel
theorem dX3_alike_2 : decode cX3_alike 2 = .ok (.iconst 0, 1) := by decide +kernel
theorem dX3_alike_3 : decode cX3_alike 3 = .ok (.istore 4, 2) := by decide +kernel
theorem dX3_alike_5 : decode cX3_alike 5 = .ok (.iload 4, 2) := by decide +kernel
theorem dX3_alike_7 : decode cX3_alike 7 = .ok (.aload_n 0, 1) := by decide +kernel
theorem dX3_alike_8 : decode cX3_alike 8 = .ok (.getfield 34, 3) := by decide +kernel
theorem dX3_alike_11 : decode cX3_alike 11 = .ok (.if_icmp .ge 35, 3) := by decide +kernel
theorem dX3_alike_14 : decode cX3_alike 14 = .ok (.aload_n 0, 1) := by decide +kernel
theorem dX3_alike_15 : decode cX3_alike 15 = .ok (.getfield 9, 3) := by decide +kernel
theorem dX3_alike_18 : decode cX3_alike 18 = .ok (.iload_n 1, 1) := by decide +kernel
theorem dX3_alike_19 : decode cX3_alike 19 = .ok (.iaload, 1) := by decide +kernel
theorem dX3_alike_20 : decode cX3_alike 20 = .ok (.aload_n 0, 1) := by decide +kernel
theorem dX3_alike_21 : decode cX3_alike 21 = .ok (.getfield 9, 3) := by decide +kernel
theorem dX3_alike_24 : decode cX3_alike 24 = .ok (.iload 4, 2) := by decide +kernel
theorem dX3_alike_26 : decode cX3_alike 26 = .ok (.iaload, 1) := by decide +kernel
theorem dX3_alike_27 : decode cX3_alike 27 = .ok (.ixor, 1) := by decide +kernel
theorem dX3_alike_28 : decode cX3_alike 28 = .ok (.iload_n 2, 1) := by decide +kernel
theorem dX3_alike_29 : decode cX3_alike 29 = .ok (.iand, 1) := by decide +kernel
theorem dX3_alike_30 : decode cX3_alike 30 = .ok (.ifCond .ne 10, 3) := by decide +kernel
theorem dX3_alike_33 : decode cX3_alike 33 = .ok (.iload_n 3, 1) := by decide +kernel
theorem dX3_alike_34 : decode cX3_alike 34 = .ok (.iconst 1, 1) := by decide +kernel
theorem dX3_alike_35 : decode cX3_alike 35 = .ok (.iload 4, 2) := by decide +kernel
theorem dX3_alike_37 : decode cX3_alike 37 = .ok (.ishl, 1) := by decide +kernel
theorem dX3_alike_38 : decode cX3_alike 38 = .ok (.ior, 1) := by decide +kernel
theorem dX3_alike_39 : decode cX3_alike 39 = .ok (.istore_n 3, 1) := by decide +kernel
theorem dX3_alike_40 : decode cX3_alike 40 = .ok (.iinc 4 1, 3) := by decide +kernel
theorem dX3_alike_43 : decode cX3_alike 43 = .ok (.goto (-38), 3) := by decide +kernel
theorem dX3_alike_46 : decode cX3_alike 46 = .ok (.iload_n 3, 1) := by decide +kernel
theorem dX3_alike_47 : decode cX3_alike 47 = .ok (.ireturn, 1) := by decide +kernel
theorem dX3_isFitting_0 : decode cX3_isFitting 0 = .ok (.aload_n 0, 1) := by decide +kernel
theorem dX3_isFitting_1 : decode cX3_isFitting 1 = .ok (.getfield 9, 3) := by decide +kernel
theorem dX3_isFitting_4 : decode cX3_isFitting 4 = .ok (.iload_n 1, 1) := by decide +kernel
theorem dX3_isFitting_5 : decode cX3_isFitting 5 = .ok (.iaload, 1) := by decide +kernel
theorem dX3_isFitting_6 : decode cX3_isFitting 6 = .ok (.aload_n 0, 1) := by decide +kernel
theorem dX3_isFitting_7 : decode cX3_isFitting 7 = .ok (.getfield 46, 3) := by decide +kernel
theorem dX3_isFitting_10 : decode cX3_isFitting 10 = .ok (.iand, 1) := by decide +kernel
theorem dX3_isFitting_11 : decode cX3_isFitting 11 = .ok (.aload_n 0, 1) := by decide +kernel
theorem dX3_isFitting_12 : decode cX3_isFitting 12 = .ok (.getfield 46, 3) := by decide +kernel
theorem dX3_isFitting_15 : decode cX3_isFitting 15 = .ok (.if_icmp .ne 21, 3) := by decide +kernel
theorem dX3_isFitting_18 : decode cX3_isFitting 18 = .ok (.aload_n 0, 1) := by decide +kernel
theorem dX3_isFitting_19 : decode cX3_isFitting 19 = .ok (.getfield 9, 3) := by decide +kernel
theorem dX3_isFitting_22 : decode cX3_isFitting 22 = .ok (.iload_n 1, 1) := by decide +kernel
theorem dX3_isFitting_23 : decode cX3_isFitting 23 = .ok (.iaload, 1) := by decide +kernel
theorem dX3_isFitting_24 : decode cX3_isFitting 24 = .ok (.aload_n 0, 1) := by decide +kernel
theorem dX3_isFitting_25 : decode cX3_isFitting 25 = .ok (.getfield 49, 3) := by decide +kernel
theorem dX3_isFitting_28 : decode cX3_isFitting 28 = .ok (.iand, 1) := by decide +kernel
theorem dX3_isFitting_29 : decode cX3_isFitting 29 = .ok (.ifCond .ne 7, 3) := by decide +kernel
theorem dX3_isFitting_32 : decode cX3_isFitting 32 = .ok (.iconst 1, 1) := by decide +kernel
theorem dX3_isFitting_33 : decode cX3_isFitting 33 = .ok (.goto 4, 3) := by decide +kernel
theorem dX3_isFitting_36 : decode cX3_isFitting 36 = .ok (.iconst 0, 1) := by decide +kernel
theorem dX3_isFitting_37 : decode cX3_isFitting 37 = .ok (.istore_n 2, 1) := by decide +kernel
theorem dX3_isFitting_38 : decode cX3_isFitting 38 = .ok (.iload_n 2, 1) := by decide +kernel
theorem dX3_isFitting_39 : decode cX3_isFitting 39 = .ok (.ifCond .eq 18, 3) := by decide +kernel
theorem dX3_isFitting_42 : decode cX3_isFitting 42 = .ok (.aload_n 0, 1) := by decide +kernel
theorem dX3_isFitting_43 : decode cX3_isFitting 43 = .ok (.getfield 24, 3) := by decide +kernel
theorem dX3_isFitting_46 : decode cX3_isFitting 46 = .ok (.iload_n 1, 1) := by decide +kernel
theorem dX3_isFitting_47 : decode cX3_isFitting 47 = .ok (.iaload, 1) := by decide +kernel
theorem dX3_isFitting_48 : decode cX3_isFitting 48 = .ok (.bipush 6, 2) := by decide +kernel
theorem dX3_isFitting_50 : decode cX3_isFitting 50 = .ok (.if_icmp .eq 7, 3) := by decide +kernel
theorem dX3_isFitting_53 : decode cX3_isFitting 53 = .ok (.iconst 1, 1) := by decide +kernel
theorem dX3_isFitting_54 : decode cX3_isFitting 54 = .ok (.goto 4, 3) := by decide +kernel
theorem dX3_isFitting_57 : decode cX3_isFitting 57 = .ok (.iconst 0, 1) := by decide +kernel
theorem dX3_isFitting_58 : decode cX3_isFitting 58 = .ok (.ireturn, 1) := by decide +kernel
theorem dX3_heldBy_0 : decode cX3_heldBy 0 = .ok (.iconst 0, 1) := by decide +kernel
theorem dX3_heldBy_1 : decode cX3_heldBy 1 = .ok (.istore_n 2, 1) := by decide +kernel
theorem dX3_heldBy_2 : decode cX3_heldBy 2 = .ok (.iconst 0, 1) := by decide +kernel
theorem dX3_heldBy_3 : decode cX3_heldBy 3 = .ok (.istore_n 3, 1) := by decide +kernel
theorem dX3_heldBy_4 : decode cX3_heldBy 4 = .ok (.iload_n 3, 1) := by decide +kernel
theorem dX3_heldBy_5 : decode cX3_heldBy 5 = .ok (.aload_n 0, 1) := by decide +kernel
theorem dX3_heldBy_6 : decode cX3_heldBy 6 = .ok (.getfield 34, 3) := by decide +kernel
theorem dX3_heldBy_9 : decode cX3_heldBy 9 = .ok (.if_icmp .ge 25, 3) := by decide +kernel
theorem dX3_heldBy_12 : decode cX3_heldBy 12 = .ok (.aload_n 0, 1) := by decide +kernel
theorem dX3_heldBy_13 : decode cX3_heldBy 13 = .ok (.getfield 24, 3) := by decide +kernel
theorem dX3_heldBy_16 : decode cX3_heldBy 16 = .ok (.iload_n 3, 1) := by decide +kernel
theorem dX3_heldBy_17 : decode cX3_heldBy 17 = .ok (.iaload, 1) := by decide +kernel
theorem dX3_heldBy_18 : decode cX3_heldBy 18 = .ok (.iload_n 1, 1) := by decide +kernel
theorem dX3_heldBy_19 : decode cX3_heldBy 19 = .ok (.if_icmp .ne 9, 3) := by decide +kernel
theorem dX3_heldBy_22 : decode cX3_heldBy 22 = .ok (.iload_n 2, 1) := by decide +kernel
theorem dX3_heldBy_23 : decode cX3_heldBy 23 = .ok (.iconst 1, 1) := by decide +kernel
theorem dX3_heldBy_24 : decode cX3_heldBy 24 = .ok (.iload_n 3, 1) := by decide +kernel
theorem dX3_heldBy_25 : decode cX3_heldBy 25 = .ok (.ishl, 1) := by decide +kernel
theorem dX3_heldBy_26 : decode cX3_heldBy 26 = .ok (.ior, 1) := by decide +kernel
theorem dX3_heldBy_27 : decode cX3_heldBy 27 = .ok (.istore_n 2, 1) := by decide +kernel
theorem dX3_heldBy_28 : decode cX3_heldBy 28 = .ok (.iinc 3 1, 3) := by decide +kernel
theorem dX3_heldBy_31 : decode cX3_heldBy 31 = .ok (.goto (-27), 3) := by decide +kernel
theorem dX3_heldBy_34 : decode cX3_heldBy 34 = .ok (.iload_n 2, 1) := by decide +kernel
theorem dX3_heldBy_35 : decode cX3_heldBy 35 = .ok (.ireturn, 1) := by decide +kernel
theorem dX3_allCoins_0 : decode cX3_allCoins 0 = .ok (.iconst 0, 1) := by decide +kernel
theorem dX3_allCoins_1 : decode cX3_allCoins 1 = .ok (.istore_n 1, 1) := by decide +kernel
theorem dX3_allCoins_2 : decode cX3_allCoins 2 = .ok (.iconst 0, 1) := by decide +kernel
theorem dX3_allCoins_3 : decode cX3_allCoins 3 = .ok (.istore_n 2, 1) := by decide +kernel
theorem dX3_allCoins_4 : decode cX3_allCoins 4 = .ok (.iload_n 2, 1) := by decide +kernel
theorem dX3_allCoins_5 : decode cX3_allCoins 5 = .ok (.iconst 5, 1) := by decide +kernel
theorem dX3_allCoins_6 : decode cX3_allCoins 6 = .ok (.if_icmp .ge 18, 3) := by decide +kernel
theorem dX3_allCoins_9 : decode cX3_allCoins 9 = .ok (.iload_n 1, 1) := by decide +kernel
theorem dX3_allCoins_10 : decode cX3_allCoins 10 = .ok (.aload_n 0, 1) := by decide +kernel
theorem dX3_allCoins_11 : decode cX3_allCoins 11 = .ok (.getfield 27, 3) := by decide +kernel
theorem dX3_allCoins_14 : decode cX3_allCoins 14 = .ok (.iload_n 2, 1) := by decide +kernel
theorem dX3_allCoins_15 : decode cX3_allCoins 15 = .ok (.iaload, 1) := by decide +kernel
theorem dX3_allCoins_16 : decode cX3_allCoins 16 = .ok (.iadd, 1) := by decide +kernel
theorem dX3_allCoins_17 : decode cX3_allCoins 17 = .ok (.istore_n 1, 1) := by decide +kernel
theorem dX3_allCoins_18 : decode cX3_allCoins 18 = .ok (.iinc 2 1, 3) := by decide +kernel
theorem dX3_allCoins_21 : decode cX3_allCoins 21 = .ok (.goto (-17), 3) := by decide +kernel
theorem dX3_allCoins_24 : decode cX3_allCoins 24 = .ok (.iload_n 1, 1) := by decide +kernel
theorem dX3_allCoins_25 : decode cX3_allCoins 25 = .ok (.ireturn, 1) := by decide +kernel
set_option maxRecDepth 20000 in
theorem ggX3_worthOf_X3_slipsOn : GoodIn wsX3_worthOf wsX3_slipsOn := goodIn_r _ [14, 15, 16, 17, 18, 19, 20, 21, 22, 49, 50, 51, 52, 53, 54, 55, 56, 57, 58, 59, 60, 61] (by decide +kernel) (by decide +kernel)
set_option maxRecDepth 20000 in
theorem gX3_worthOf_X3_slipsOn : GoodIn wsX3_worthOf (wsV RX3 86 RX3 yX3_slipsOn wsX3_slipsOn) := goodIn_app (goodIn_of _ (by decide +kernel)) ggX3_worthOf_X3_slipsOn
set_option maxRecDepth 20000 in
theorem ggX3_worthOf_X4_value : GoodIn wsX3_worthOf wsX4_value := goodIn_r _ [27, 28, 29, 30, 31, 26, 32, 33, 34, 35, 62, 63] (by decide +kernel) (by decide +kernel)
set_option maxRecDepth 20000 in
theorem gX3_worthOf_X4_value : GoodIn wsX3_worthOf (wsV RX3 93 RX4 yX4_value wsX4_value) := goodIn_app (goodIn_of _ (by decide +kernel)) ggX3_worthOf_X4_value
theorem dX3_worthOf_0 : decode cX3_worthOf 0 = .ok (.aload_n 0, 1) := by decide +kernel
theorem dX3_worthOf_1 : decode cX3_worthOf 1 = .ok (.iload_n 2, 1) := by decide +kernel
theorem dX3_worthOf_2 : decode cX3_worthOf 2 = .ok (.invokevirtual 86, 3) := by decide +kernel
theorem dX3_worthOf_5 : decode cX3_worthOf 5 = .ok (.istore_n 3, 1) := by decide +kernel
theorem dX3_worthOf_6 : decode cX3_worthOf 6 = .ok (.bipush 100, 2) := by decide +kernel
theorem dX3_worthOf_8 : decode cX3_worthOf 8 = .ok (.iload_n 3, 1) := by decide +kernel
theorem dX3_worthOf_9 : decode cX3_worthOf 9 = .ok (.bipush 10, 2) := by decide +kernel
theorem dX3_worthOf_11 : decode cX3_worthOf 11 = .ok (.imul, 1) := by decide +kernel
theorem dX3_worthOf_12 : decode cX3_worthOf 12 = .ok (.isub, 1) := by decide +kernel
theorem dX3_worthOf_13 : decode cX3_worthOf 13 = .ok (.iload_n 2, 1) := by decide +kernel
theorem dX3_worthOf_14 : decode cX3_worthOf 14 = .ok (.isub, 1) := by decide +kernel
theorem dX3_worthOf_15 : decode cX3_worthOf 15 = .ok (.istore 4, 2) := by decide +kernel
theorem dX3_worthOf_17 : decode cX3_worthOf 17 = .ok (.aload_n 1, 1) := by decide +kernel
theorem dX3_worthOf_18 : decode cX3_worthOf 18 = .ok (.getfield 89, 3) := by decide +kernel
theorem dX3_worthOf_21 : decode cX3_worthOf 21 = .ok (.ifnull 20, 3) := by decide +kernel
theorem dX3_worthOf_24 : decode cX3_worthOf 24 = .ok (.aload_n 1, 1) := by decide +kernel
theorem dX3_worthOf_25 : decode cX3_worthOf 25 = .ok (.getfield 89, 3) := by decide +kernel
theorem dX3_worthOf_28 : decode cX3_worthOf 28 = .ok (.iload_n 3, 1) := by decide +kernel
theorem dX3_worthOf_29 : decode cX3_worthOf 29 = .ok (.iload_n 2, 1) := by decide +kernel
theorem dX3_worthOf_30 : decode cX3_worthOf 30 = .ok (.aload_n 0, 1) := by decide +kernel
theorem dX3_worthOf_31 : decode cX3_worthOf 31 = .ok (.getfield 21, 3) := by decide +kernel
theorem dX3_worthOf_34 : decode cX3_worthOf 34 = .ok (.iload_n 2, 1) := by decide +kernel
theorem dX3_worthOf_35 : decode cX3_worthOf 35 = .ok (.iaload, 1) := by decide +kernel
theorem dX3_worthOf_36 : decode cX3_worthOf 36 = .ok (.invokevirtual 93, 3) := by decide +kernel
theorem dX3_worthOf_39 : decode cX3_worthOf 39 = .ok (.istore 4, 2) := by decide +kernel
theorem dX3_worthOf_41 : decode cX3_worthOf 41 = .ok (.iconst 0, 1) := by decide +kernel
theorem dX3_worthOf_42 : decode cX3_worthOf 42 = .ok (.sipush 999, 3) := by decide +kernel
theorem dX3_worthOf_45 : decode cX3_worthOf 45 = .ok (.iload 4, 2) := by decide +kernel
theorem dX3_worthOf_47 : decode cX3_worthOf 47 = .ok (.invokestatic 99, 3) := by decide +kernel
theorem dX3_worthOf_50 : decode cX3_worthOf 50 = .ok (.invokestatic 105, 3) := by decide +kernel
theorem dX3_worthOf_53 : decode cX3_worthOf 53 = .ok (.ireturn, 1) := by decide +kernel
set_option maxRecDepth 20000 in
theorem ggX3_hardOf_X3_slipsOn : GoodIn wsX3_hardOf wsX3_slipsOn := goodIn_r _ [6, 7, 8, 9, 10, 11, 12, 13, 14, 41, 42, 43, 44, 45, 46, 47, 48, 49, 50, 51, 52, 53] (by decide +kernel) (by decide +kernel)
set_option maxRecDepth 20000 in
theorem gX3_hardOf_X3_slipsOn : GoodIn wsX3_hardOf (wsV RX3 86 RX3 yX3_slipsOn wsX3_slipsOn) := goodIn_app (goodIn_of _ (by decide +kernel)) ggX3_hardOf_X3_slipsOn
set_option maxRecDepth 20000 in
theorem ggX3_hardOf_X4_value : GoodIn wsX3_hardOf wsX4_value := goodIn_r _ [19, 20, 21, 22, 23, 18, 24, 25, 26, 27, 54, 55] (by decide +kernel) (by decide +kernel)
set_option maxRecDepth 20000 in
theorem gX3_hardOf_X4_value : GoodIn wsX3_hardOf (wsV RX3 93 RX4 yX4_value wsX4_value) := goodIn_app (goodIn_of _ (by decide +kernel)) ggX3_hardOf_X4_value
theorem dX3_hardOf_0 : decode cX3_hardOf 0 = .ok (.aload_n 0, 1) := by decide +kernel
theorem dX3_hardOf_1 : decode cX3_hardOf 1 = .ok (.iload_n 2, 1) := by decide +kernel
theorem dX3_hardOf_2 : decode cX3_hardOf 2 = .ok (.invokevirtual 86, 3) := by decide +kernel
theorem dX3_hardOf_5 : decode cX3_hardOf 5 = .ok (.istore 4, 2) := by decide +kernel
theorem dX3_hardOf_7 : decode cX3_hardOf 7 = .ok (.aload_n 1, 1) := by decide +kernel
theorem dX3_hardOf_8 : decode cX3_hardOf 8 = .ok (.getfield 108, 3) := by decide +kernel
theorem dX3_hardOf_11 : decode cX3_hardOf 11 = .ok (.ifnonnull 10, 3) := by decide +kernel
theorem dX3_hardOf_14 : decode cX3_hardOf 14 = .ok (.iload 4, 2) := by decide +kernel
theorem dX3_hardOf_16 : decode cX3_hardOf 16 = .ok (.iload_n 3, 1) := by decide +kernel
theorem dX3_hardOf_17 : decode cX3_hardOf 17 = .ok (.iadd, 1) := by decide +kernel
theorem dX3_hardOf_18 : decode cX3_hardOf 18 = .ok (.goto 14, 3) := by decide +kernel
theorem dX3_hardOf_21 : decode cX3_hardOf 21 = .ok (.aload_n 1, 1) := by decide +kernel
theorem dX3_hardOf_22 : decode cX3_hardOf 22 = .ok (.getfield 108, 3) := by decide +kernel
theorem dX3_hardOf_25 : decode cX3_hardOf 25 = .ok (.iload 4, 2) := by decide +kernel
theorem dX3_hardOf_27 : decode cX3_hardOf 27 = .ok (.iload_n 2, 1) := by decide +kernel
theorem dX3_hardOf_28 : decode cX3_hardOf 28 = .ok (.iload_n 3, 1) := by decide +kernel
theorem dX3_hardOf_29 : decode cX3_hardOf 29 = .ok (.invokevirtual 93, 3) := by decide +kernel
theorem dX3_hardOf_32 : decode cX3_hardOf 32 = .ok (.ireturn, 1) := by decide +kernel
theorem dX3_canComeIn_0 : decode cX3_canComeIn 0 = .ok (.aload_n 1, 1) := by decide +kernel
theorem dX3_canComeIn_1 : decode cX3_canComeIn 1 = .ok (.getfield 111, 3) := by decide +kernel
theorem dX3_canComeIn_4 : decode cX3_canComeIn 4 = .ok (.iload_n 2, 1) := by decide +kernel
theorem dX3_canComeIn_5 : decode cX3_canComeIn 5 = .ok (.iaload, 1) := by decide +kernel
theorem dX3_canComeIn_6 : decode cX3_canComeIn 6 = .ok (.istore_n 3, 1) := by decide +kernel
theorem dX3_canComeIn_7 : decode cX3_canComeIn 7 = .ok (.aload_n 1, 1) := by decide +kernel
theorem dX3_canComeIn_8 : decode cX3_canComeIn 8 = .ok (.getfield 114, 3) := by decide +kernel
theorem dX3_canComeIn_11 : decode cX3_canComeIn 11 = .ok (.iload_n 2, 1) := by decide +kernel
theorem dX3_canComeIn_12 : decode cX3_canComeIn 12 = .ok (.iaload, 1) := by decide +kernel
theorem dX3_canComeIn_13 : decode cX3_canComeIn 13 = .ok (.aload_n 0, 1) := by decide +kernel
theorem dX3_canComeIn_14 : decode cX3_canComeIn 14 = .ok (.getfield 40, 3) := by decide +kernel
theorem dX3_canComeIn_17 : decode cX3_canComeIn 17 = .ok (.iconst (-1), 1) := by decide +kernel
theorem dX3_canComeIn_18 : decode cX3_canComeIn 18 = .ok (.ixor, 1) := by decide +kernel
theorem dX3_canComeIn_19 : decode cX3_canComeIn 19 = .ok (.iand, 1) := by decide +kernel
theorem dX3_canComeIn_20 : decode cX3_canComeIn 20 = .ok (.ifCond .eq 7, 3) := by decide +kernel
theorem dX3_canComeIn_23 : decode cX3_canComeIn 23 = .ok (.iconst 1, 1) := by decide +kernel
theorem dX3_canComeIn_24 : decode cX3_canComeIn 24 = .ok (.goto 4, 3) := by decide +kernel
theorem dX3_canComeIn_27 : decode cX3_canComeIn 27 = .ok (.iconst 0, 1) := by decide +kernel
theorem dX3_canComeIn_28 : decode cX3_canComeIn 28 = .ok (.istore 4, 2) := by decide +kernel
theorem dX3_canComeIn_30 : decode cX3_canComeIn 30 = .ok (.iload_n 3, 1) := by decide +kernel
theorem dX3_canComeIn_31 : decode cX3_canComeIn 31 = .ok (.iconst 1, 1) := by decide +kernel
theorem dX3_canComeIn_32 : decode cX3_canComeIn 32 = .ok (.if_icmp .eq 13, 3) := by decide +kernel
theorem dX3_canComeIn_35 : decode cX3_canComeIn 35 = .ok (.iload_n 3, 1) := by decide +kernel
theorem dX3_canComeIn_36 : decode cX3_canComeIn 36 = .ok (.iconst 3, 1) := by decide +kernel
theorem dX3_canComeIn_37 : decode cX3_canComeIn 37 = .ok (.if_icmp .eq 12, 3) := by decide +kernel
theorem dX3_canComeIn_40 : decode cX3_canComeIn 40 = .ok (.iload 4, 2) := by decide +kernel
theorem dX3_canComeIn_42 : decode cX3_canComeIn 42 = .ok (.ifCond .eq 7, 3) := by decide +kernel
theorem dX3_canComeIn_45 : decode cX3_canComeIn 45 = .ok (.iconst 1, 1) := by decide +kernel
theorem dX3_canComeIn_46 : decode cX3_canComeIn 46 = .ok (.goto 4, 3) := by decide +kernel
theorem dX3_canComeIn_49 : decode cX3_canComeIn 49 = .ok (.iconst 0, 1) := by decide +kernel
theorem dX3_canComeIn_50 : decode cX3_canComeIn 50 = .ok (.ireturn, 1) := by decide +kernel
set_option maxRecDepth 20000 in
theorem ggX3_swap_X3_isHeld : GoodIn wsX3_swap wsX3_isHeld := goodIn_r _ [9, 2, 10, 11, 12, 13, 14, 15, 16, 17, 18, 8, 19, 20, 27, 28, 29, 30, 31, 32, 33, 34, 35, 36, 37, 38, 39, 40, 41, 42, 43, 44, 45, 46, 47, 48, 49, 50, 51, 52] (by decide +kernel) (by decide +kernel)
set_option maxRecDepth 20000 in
theorem gX3_swap_X3_isHeld : GoodIn wsX3_swap (wsV RX3 117 RX3 yX3_isHeld wsX3_isHeld) := goodIn_app (goodIn_of _ (by decide +kernel)) ggX3_swap_X3_isHeld
set_option maxRecDepth 20000 in
theorem ggX3_swap_X3_canComeIn : GoodIn wsX3_swap wsX3_canComeIn := goodIn_r _ [24, 3, 25, 26, 40, 41, 42, 43, 44, 45, 46, 47, 48, 49, 50, 51, 52, 27, 28, 29, 30, 31, 32, 33, 34, 35, 36, 37, 38, 39] (by decide +kernel) (by decide +kernel)
set_option maxRecDepth 20000 in
theorem gX3_swap_X3_canComeIn : GoodIn wsX3_swap (wsV RX3 121 RX3 yX3_canComeIn wsX3_canComeIn) := goodIn_app (goodIn_of _ (by decide +kernel)) ggX3_swap_X3_canComeIn
theorem dX3_swap_0 : decode cX3_swap 0 = .ok (.aload_n 0, 1) := by decide +kernel
theorem dX3_swap_1 : decode cX3_swap 1 = .ok (.aload_n 1, 1) := by decide +kernel
theorem dX3_swap_2 : decode cX3_swap 2 = .ok (.iload_n 2, 1) := by decide +kernel
theorem dX3_swap_3 : decode cX3_swap 3 = .ok (.iload_n 3, 1) := by decide +kernel
theorem dX3_swap_4 : decode cX3_swap 4 = .ok (.invokevirtual 117, 3) := by decide +kernel
theorem dX3_swap_7 : decode cX3_swap 7 = .ok (.ifCond .eq 12, 3) := by decide +kernel
theorem dX3_swap_10 : decode cX3_swap 10 = .ok (.aload_n 0, 1) := by decide +kernel
theorem dX3_swap_11 : decode cX3_swap 11 = .ok (.aload_n 1, 1) := by decide +kernel
theorem dX3_swap_12 : decode cX3_swap 12 = .ok (.iload_n 2, 1) := by decide +kernel
theorem dX3_swap_13 : decode cX3_swap 13 = .ok (.invokevirtual 121, 3) := by decide +kernel
theorem dX3_swap_16 : decode cX3_swap 16 = .ok (.ifCond .ne 5, 3) := by decide +kernel
theorem dX3_swap_19 : decode cX3_swap 19 = .ok (.iconst (-1), 1) := by decide +kernel
theorem dX3_swap_20 : decode cX3_swap 20 = .ok (.ireturn, 1) := by decide +kernel
theorem dX3_swap_21 : decode cX3_swap 21 = .ok (.aload_n 0, 1) := by decide +kernel
theorem dX3_swap_22 : decode cX3_swap 22 = .ok (.getfield 37, 3) := by decide +kernel
theorem dX3_swap_25 : decode cX3_swap 25 = .ok (.istore 4, 2) := by decide +kernel
theorem dX3_swap_27 : decode cX3_swap 27 = .ok (.aload_n 0, 1) := by decide +kernel
theorem dX3_swap_28 : decode cX3_swap 28 = .ok (.getfield 24, 3) := by decide +kernel
theorem dX3_swap_31 : decode cX3_swap 31 = .ok (.iload_n 3, 1) := by decide +kernel
theorem dX3_swap_32 : decode cX3_swap 32 = .ok (.iconst 5, 1) := by decide +kernel
theorem dX3_swap_33 : decode cX3_swap 33 = .ok (.iastore, 1) := by decide +kernel
theorem dX3_swap_34 : decode cX3_swap 34 = .ok (.aload_n 0, 1) := by decide +kernel
theorem dX3_swap_35 : decode cX3_swap 35 = .ok (.getfield 24, 3) := by decide +kernel
theorem dX3_swap_38 : decode cX3_swap 38 = .ok (.iload 4, 2) := by decide +kernel
theorem dX3_swap_40 : decode cX3_swap 40 = .ok (.iload_n 2, 1) := by decide +kernel
theorem dX3_swap_41 : decode cX3_swap 41 = .ok (.iastore, 1) := by decide +kernel
theorem dX3_swap_42 : decode cX3_swap 42 = .ok (.aload_n 0, 1) := by decide +kernel
theorem dX3_swap_43 : decode cX3_swap 43 = .ok (.iload_n 3, 1) := by decide +kernel
theorem dX3_swap_44 : decode cX3_swap 44 = .ok (.putfield 37, 3) := by decide +kernel
theorem dX3_swap_47 : decode cX3_swap 47 = .ok (.aload_n 1, 1) := by decide +kernel
theorem dX3_swap_48 : decode cX3_swap 48 = .ok (.getfield 111, 3) := by decide +kernel
theorem dX3_swap_51 : decode cX3_swap 51 = .ok (.iload_n 2, 1) := by decide +kernel
theorem dX3_swap_52 : decode cX3_swap 52 = .ok (.iaload, 1) := by decide +kernel
theorem dX3_swap_53 : decode cX3_swap 53 = .ok (.iconst 2, 1) := by decide +kernel
theorem dX3_swap_54 : decode cX3_swap 54 = .ok (.if_icmp .ne 22, 3) := by decide +kernel
theorem dX3_swap_57 : decode cX3_swap 57 = .ok (.aload_n 0, 1) := by decide +kernel
theorem dX3_swap_58 : decode cX3_swap 58 = .ok (.getfield 9, 3) := by decide +kernel
theorem dX3_swap_61 : decode cX3_swap 61 = .ok (.iload 4, 2) := by decide +kernel
theorem dX3_swap_63 : decode cX3_swap 63 = .ok (.dup2, 1) := by decide +kernel
theorem dX3_swap_64 : decode cX3_swap 64 = .ok (.iaload, 1) := by decide +kernel
theorem dX3_swap_65 : decode cX3_swap 65 = .ok (.aload_n 0, 1) := by decide +kernel
theorem dX3_swap_66 : decode cX3_swap 66 = .ok (.getfield 9, 3) := by decide +kernel
theorem dX3_swap_69 : decode cX3_swap 69 = .ok (.iload 4, 2) := by decide +kernel
theorem dX3_swap_71 : decode cX3_swap 71 = .ok (.iaload, 1) := by decide +kernel
theorem dX3_swap_72 : decode cX3_swap 72 = .ok (.iconst 1, 1) := by decide +kernel
theorem dX3_swap_73 : decode cX3_swap 73 = .ok (.isub, 1) := by decide +kernel
theorem dX3_swap_74 : decode cX3_swap 74 = .ok (.iand, 1) := by decide +kernel
theorem dX3_swap_75 : decode cX3_swap 75 = .ok (.iastore, 1) := by decide +kernel
theorem dX3_swap_76 : decode cX3_swap 76 = .ok (.iload 4, 2) := by decide +kernel
theorem dX3_swap_78 : decode cX3_swap 78 = .ok (.ireturn, 1) := by decide +kernel
set_option maxRecDepth 20000 in
theorem ggX3_copyOf_X1_hasThief : GoodIn wsX3_copyOf wsX1_hasThief := goodIn_r _ [9, 10, 71, 72, 73, 74, 75, 76, 77, 78, 79, 80, 81, 82, 83] (by decide +kernel) (by decide +kernel)
set_option maxRecDepth 20000 in
theorem gX3_copyOf_X1_hasThief : GoodIn wsX3_copyOf (wsV RX3 75 RX1 yX1_hasThief wsX1_hasThief) := goodIn_app (goodIn_of _ (by decide +kernel)) ggX3_copyOf_X1_hasThief
set_option maxRecDepth 20000 in
theorem ggX3_copyOf_X3_isThere : GoodIn wsX3_copyOf wsX3_isThere := goodIn_r _ [15, 1, 58, 59, 60, 61, 62, 63, 64, 65, 66, 67, 68, 69, 70] (by decide +kernel) (by decide +kernel)
set_option maxRecDepth 20000 in
theorem gX3_copyOf_X3_isThere : GoodIn wsX3_copyOf (wsV RX3 71 RX3 yX3_isThere wsX3_isThere) := goodIn_app (goodIn_of _ (by decide +kernel)) ggX3_copyOf_X3_isThere
set_option maxRecDepth 20000 in
theorem ggX3_copyOf_X1_hasSpot : GoodIn wsX3_copyOf wsX1_hasSpot := goodIn_r _ [19, 20, 71, 72, 73, 74, 75, 76, 77, 78, 79, 80, 81, 82, 83] (by decide +kernel) (by decide +kernel)
set_option maxRecDepth 20000 in
theorem gX3_copyOf_X1_hasSpot : GoodIn wsX3_copyOf (wsV RX3 125 RX1 yX1_hasSpot wsX1_hasSpot) := goodIn_app (goodIn_of _ (by decide +kernel)) ggX3_copyOf_X1_hasSpot
set_option maxRecDepth 20000 in
theorem ggX3_copyOf_X3_hardOf : GoodIn wsX3_copyOf wsX3_hardOf := goodIn_r _ [24, 25, 26, 27, 28, 14, 29, 30, 31, 32, 33, 34, 35, 36, 37, 38, 39, 40, 41, 42, 43, 44, 45, 46, 47, 48, 49, 50, 71, 72, 73, 74, 75, 76, 77, 78, 79, 80, 81, 82, 83, 58, 59, 60, 61, 62, 63, 64, 65, 66, 67, 68, 69, 70, 84, 85] (by decide +kernel) (by decide +kernel)
set_option maxRecDepth 20000 in
theorem gX3_copyOf_X3_hardOf : GoodIn wsX3_copyOf (wsV RX3 131 RX3 yX3_hardOf wsX3_hardOf) := goodIn_app (goodIn_of _ (by decide +kernel)) ggX3_copyOf_X3_hardOf
set_option maxRecDepth 20000 in
theorem ggX3_copyOf_X3_addPiece : GoodIn wsX3_copyOf wsX3_addPiece := goodIn_r _ [54, 1, 30, 55, 56, 57, 3, 11, 12, 13, 14, 15, 58, 59, 60, 61, 62, 63, 64, 65, 66, 67, 68, 69, 70] (by decide +kernel) (by decide +kernel)
set_option maxRecDepth 20000 in
theorem gX3_copyOf_X3_addPiece : GoodIn wsX3_copyOf (wsV RX3 135 RX3 yX3_addPiece wsX3_addPiece) := goodIn_app (goodIn_of _ (by decide +kernel)) ggX3_copyOf_X3_addPiece
