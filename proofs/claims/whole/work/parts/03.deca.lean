theorem dX1_init_0 : decode cX1_init 0 = .ok (.aload_n 0, 1) := by decide +kernel
theorem dX1_init_1 : decode cX1_init 1 = .ok (.invokespecial 3, 3) := by decide +kernel
theorem dX1_init_4 : decode cX1_init 4 = .ok (.aload_n 0, 1) := by decide +kernel
theorem dX1_init_5 : decode cX1_init 5 = .ok (.bipush 8, 2) := by decide +kernel
theorem dX1_init_7 : decode cX1_init 7 = .ok (.newarray .long, 2) := by decide +kernel
theorem dX1_init_9 : decode cX1_init 9 = .ok (.putfield 9, 3) := by decide +kernel
theorem dX1_init_12 : decode cX1_init 12 = .ok (.aload_n 0, 1) := by decide +kernel
theorem dX1_init_13 : decode cX1_init 13 = .ok (.iconst 5, 1) := by decide +kernel
theorem dX1_init_14 : decode cX1_init 14 = .ok (.newarray .long, 2) := by decide +kernel
theorem dX1_init_16 : decode cX1_init 16 = .ok (.putfield 15, 3) := by decide +kernel
theorem dX1_init_19 : decode cX1_init 19 = .ok (.aload_n 0, 1) := by decide +kernel
theorem dX1_init_20 : decode cX1_init 20 = .ok (.iconst 4, 1) := by decide +kernel
theorem dX1_init_21 : decode cX1_init 21 = .ok (.newarray .long, 2) := by decide +kernel
theorem dX1_init_23 : decode cX1_init 23 = .ok (.putfield 18, 3) := by decide +kernel
theorem dX1_init_26 : decode cX1_init 26 = .ok (.aload_n 0, 1) := by decide +kernel
theorem dX1_init_27 : decode cX1_init 27 = .ok (.iconst 5, 1) := by decide +kernel
theorem dX1_init_28 : decode cX1_init 28 = .ok (.newarray .int, 2) := by decide +kernel
theorem dX1_init_30 : decode cX1_init 30 = .ok (.putfield 21, 3) := by decide +kernel
theorem dX1_init_33 : decode cX1_init 33 = .ok (.aload_n 0, 1) := by decide +kernel
theorem dX1_init_34 : decode cX1_init 34 = .ok (.iconst 5, 1) := by decide +kernel
theorem dX1_init_35 : decode cX1_init 35 = .ok (.newarray .int, 2) := by decide +kernel
theorem dX1_init_37 : decode cX1_init 37 = .ok (.putfield 25, 3) := by decide +kernel
theorem dX1_init_40 : decode cX1_init 40 = .ok (.aload_n 0, 1) := by decide +kernel
theorem dX1_init_41 : decode cX1_init 41 = .ok (.iconst 5, 1) := by decide +kernel
theorem dX1_init_42 : decode cX1_init 42 = .ok (.newarray .int, 2) := by decide +kernel
theorem dX1_init_44 : decode cX1_init 44 = .ok (.putfield 28, 3) := by decide +kernel
theorem dX1_init_47 : decode cX1_init 47 = .ok (.aload_n 0, 1) := by decide +kernel
theorem dX1_init_48 : decode cX1_init 48 = .ok (.iconst 4, 1) := by decide +kernel
theorem dX1_init_49 : decode cX1_init 49 = .ok (.newarray .int, 2) := by decide +kernel
theorem dX1_init_51 : decode cX1_init 51 = .ok (.putfield 31, 3) := by decide +kernel
theorem dX1_init_54 : decode cX1_init 54 = .ok (.aload_n 0, 1) := by decide +kernel
theorem dX1_init_55 : decode cX1_init 55 = .ok (.new 34, 3) := by decide +kernel
theorem dX1_init_58 : decode cX1_init 58 = .ok (.dup, 1) := by decide +kernel
theorem dX1_init_59 : decode cX1_init 59 = .ok (.invokespecial 36, 3) := by decide +kernel
theorem dX1_init_62 : decode cX1_init 62 = .ok (.putfield 37, 3) := by decide +kernel
theorem dX1_init_65 : decode cX1_init 65 = .ok (.aload_n 0, 1) := by decide +kernel
theorem dX1_init_66 : decode cX1_init 66 = .ok (.iconst 0, 1) := by decide +kernel
theorem dX1_init_67 : decode cX1_init 67 = .ok (.putfield 41, 3) := by decide +kernel
theorem dX1_init_70 : decode cX1_init 70 = .ok (.aload_n 0, 1) := by decide +kernel
theorem dX1_init_71 : decode cX1_init 71 = .ok (.iconst 0, 1) := by decide +kernel
theorem dX1_init_72 : decode cX1_init 72 = .ok (.putfield 45, 3) := by decide +kernel
theorem dX1_init_75 : decode cX1_init 75 = .ok (.aload_n 0, 1) := by decide +kernel
theorem dX1_init_76 : decode cX1_init 76 = .ok (.iconst 0, 1) := by decide +kernel
theorem dX1_init_77 : decode cX1_init 77 = .ok (.putfield 48, 3) := by decide +kernel
theorem dX1_init_80 : decode cX1_init 80 = .ok (.aload_n 0, 1) := by decide +kernel
theorem dX1_init_81 : decode cX1_init 81 = .ok (.aconst_null, 1) := by decide +kernel
theorem dX1_init_82 : decode cX1_init 82 = .ok (.putfield 51, 3) := by decide +kernel
theorem dX1_init_85 : decode cX1_init 85 = .ok (.aload_n 0, 1) := by decide +kernel
theorem dX1_init_86 : decode cX1_init 86 = .ok (.aconst_null, 1) := by decide +kernel
theorem dX1_init_87 : decode cX1_init 87 = .ok (.putfield 55, 3) := by decide +kernel
theorem dX1_init_90 : decode cX1_init 90 = .ok (.return_, 1) := by decide +kernel
theorem dX1_clear_0 : decode cX1_clear 0 = .ok (.aload_n 0, 1) := by decide +kernel
theorem dX1_clear_1 : decode cX1_clear 1 = .ok (.iconst 0, 1) := by decide +kernel
theorem dX1_clear_2 : decode cX1_clear 2 = .ok (.putfield 41, 3) := by decide +kernel
theorem dX1_clear_5 : decode cX1_clear 5 = .ok (.aload_n 0, 1) := by decide +kernel
theorem dX1_clear_6 : decode cX1_clear 6 = .ok (.iconst 0, 1) := by decide +kernel
theorem dX1_clear_7 : decode cX1_clear 7 = .ok (.putfield 45, 3) := by decide +kernel
theorem dX1_clear_10 : decode cX1_clear 10 = .ok (.aload_n 0, 1) := by decide +kernel
theorem dX1_clear_11 : decode cX1_clear 11 = .ok (.iconst 0, 1) := by decide +kernel
theorem dX1_clear_12 : decode cX1_clear 12 = .ok (.putfield 48, 3) := by decide +kernel
theorem dX1_clear_15 : decode cX1_clear 15 = .ok (.aload_n 0, 1) := by decide +kernel
theorem dX1_clear_16 : decode cX1_clear 16 = .ok (.aconst_null, 1) := by decide +kernel
theorem dX1_clear_17 : decode cX1_clear 17 = .ok (.putfield 51, 3) := by decide +kernel
theorem dX1_clear_20 : decode cX1_clear 20 = .ok (.aload_n 0, 1) := by decide +kernel
theorem dX1_clear_21 : decode cX1_clear 21 = .ok (.aconst_null, 1) := by decide +kernel
theorem dX1_clear_22 : decode cX1_clear 22 = .ok (.putfield 55, 3) := by decide +kernel
theorem dX1_clear_25 : decode cX1_clear 25 = .ok (.aload_n 0, 1) := by decide +kernel
theorem dX1_clear_26 : decode cX1_clear 26 = .ok (.getfield 37, 3) := by decide +kernel
theorem dX1_clear_29 : decode cX1_clear 29 = .ok (.invokevirtual 58, 3) := by decide +kernel
theorem dX1_clear_32 : decode cX1_clear 32 = .ok (.return_, 1) := by decide +kernel
theorem dX1_hasSpot_0 : decode cX1_hasSpot 0 = .ok (.iload_n 1, 1) := by decide +kernel
theorem dX1_hasSpot_1 : decode cX1_hasSpot 1 = .ok (.ifCond .lt 15, 3) := by decide +kernel
theorem dX1_hasSpot_4 : decode cX1_hasSpot 4 = .ok (.iload_n 1, 1) := by decide +kernel
theorem dX1_hasSpot_5 : decode cX1_hasSpot 5 = .ok (.aload_n 0, 1) := by decide +kernel
theorem dX1_hasSpot_6 : decode cX1_hasSpot 6 = .ok (.getfield 41, 3) := by decide +kernel
theorem dX1_hasSpot_9 : decode cX1_hasSpot 9 = .ok (.if_icmp .ge 7, 3) := by decide +kernel
theorem dX1_hasSpot_12 : decode cX1_hasSpot 12 = .ok (.iconst 1, 1) := by decide +kernel
theorem dX1_hasSpot_13 : decode cX1_hasSpot 13 = .ok (.goto 4, 3) := by decide +kernel
theorem dX1_hasSpot_16 : decode cX1_hasSpot 16 = .ok (.iconst 0, 1) := by decide +kernel
theorem dX1_hasSpot_17 : decode cX1_hasSpot 17 = .ok (.ireturn, 1) := by decide +kernel
theorem dX1_hasThief_0 : decode cX1_hasThief 0 = .ok (.iload_n 1, 1) := by decide +kernel
theorem dX1_hasThief_1 : decode cX1_hasThief 1 = .ok (.ifCond .lt 15, 3) := by decide +kernel
theorem dX1_hasThief_4 : decode cX1_hasThief 4 = .ok (.iload_n 1, 1) := by decide +kernel
theorem dX1_hasThief_5 : decode cX1_hasThief 5 = .ok (.aload_n 0, 1) := by decide +kernel
theorem dX1_hasThief_6 : decode cX1_hasThief 6 = .ok (.getfield 45, 3) := by decide +kernel
theorem dX1_hasThief_9 : decode cX1_hasThief 9 = .ok (.if_icmp .ge 7, 3) := by decide +kernel
theorem dX1_hasThief_12 : decode cX1_hasThief 12 = .ok (.iconst 1, 1) := by decide +kernel
theorem dX1_hasThief_13 : decode cX1_hasThief 13 = .ok (.goto 4, 3) := by decide +kernel
theorem dX1_hasThief_16 : decode cX1_hasThief 16 = .ok (.iconst 0, 1) := by decide +kernel
theorem dX1_hasThief_17 : decode cX1_hasThief 17 = .ok (.ireturn, 1) := by decide +kernel
theorem dX1_addSpot_0 : decode cX1_addSpot 0 = .ok (.aload_n 0, 1) := by decide +kernel
theorem dX1_addSpot_1 : decode cX1_addSpot 1 = .ok (.getfield 41, 3) := by decide +kernel
theorem dX1_addSpot_4 : decode cX1_addSpot 4 = .ok (.bipush 8, 2) := by decide +kernel
theorem dX1_addSpot_6 : decode cX1_addSpot 6 = .ok (.if_icmp .ge 23, 3) := by decide +kernel
theorem dX1_addSpot_9 : decode cX1_addSpot 9 = .ok (.aload_n 0, 1) := by decide +kernel
theorem dX1_addSpot_10 : decode cX1_addSpot 10 = .ok (.getfield 9, 3) := by decide +kernel
theorem dX1_addSpot_13 : decode cX1_addSpot 13 = .ok (.aload_n 0, 1) := by decide +kernel
theorem dX1_addSpot_14 : decode cX1_addSpot 14 = .ok (.getfield 41, 3) := by decide +kernel
theorem dX1_addSpot_17 : decode cX1_addSpot 17 = .ok (.lload_n 1, 1) := by decide +kernel
theorem dX1_addSpot_18 : decode cX1_addSpot 18 = .ok (.lastore, 1) := by decide +kernel
theorem dX1_addSpot_19 : decode cX1_addSpot 19 = .ok (.aload_n 0, 1) := by decide +kernel
theorem dX1_addSpot_20 : decode cX1_addSpot 20 = .ok (.dup, 1) := by decide +kernel
theorem dX1_addSpot_21 : decode cX1_addSpot 21 = .ok (.getfield 41, 3) := by decide +kernel
theorem dX1_addSpot_24 : decode cX1_addSpot 24 = .ok (.iconst 1, 1) := by decide +kernel
theorem dX1_addSpot_25 : decode cX1_addSpot 25 = .ok (.iadd, 1) := by decide +kernel
theorem dX1_addSpot_26 : decode cX1_addSpot 26 = .ok (.putfield 41, 3) := by decide +kernel
theorem dX1_addSpot_29 : decode cX1_addSpot 29 = .ok (.return_, 1) := by decide +kernel
theorem dX1_addThief_0 : decode cX1_addThief 0 = .ok (.aload_n 0, 1) := by decide +kernel
theorem dX1_addThief_1 : decode cX1_addThief 1 = .ok (.getfield 45, 3) := by decide +kernel
theorem dX1_addThief_4 : decode cX1_addThief 4 = .ok (.iconst 5, 1) := by decide +kernel
theorem dX1_addThief_5 : decode cX1_addThief 5 = .ok (.if_icmp .ge 69, 3) := by decide +kernel
theorem dX1_addThief_8 : decode cX1_addThief 8 = .ok (.aload_n 0, 1) := by decide +kernel
theorem dX1_addThief_9 : decode cX1_addThief 9 = .ok (.getfield 15, 3) := by decide +kernel
theorem dX1_addThief_12 : decode cX1_addThief 12 = .ok (.aload_n 0, 1) := by decide +kernel
theorem dX1_addThief_13 : decode cX1_addThief 13 = .ok (.getfield 45, 3) := by decide +kernel
theorem dX1_addThief_16 : decode cX1_addThief 16 = .ok (.lload_n 1, 1) := by decide +kernel
theorem dX1_addThief_17 : decode cX1_addThief 17 = .ok (.lastore, 1) := by decide +kernel
theorem dX1_addThief_18 : decode cX1_addThief 18 = .ok (.aload_n 0, 1) := by decide +kernel
theorem dX1_addThief_19 : decode cX1_addThief 19 = .ok (.getfield 21, 3) := by decide +kernel
theorem dX1_addThief_22 : decode cX1_addThief 22 = .ok (.aload_n 0, 1) := by decide +kernel
theorem dX1_addThief_23 : decode cX1_addThief 23 = .ok (.getfield 45, 3) := by decide +kernel
theorem dX1_addThief_26 : decode cX1_addThief 26 = .ok (.iload_n 3, 1) := by decide +kernel
theorem dX1_addThief_27 : decode cX1_addThief 27 = .ok (.iastore, 1) := by decide +kernel
theorem dX1_addThief_28 : decode cX1_addThief 28 = .ok (.aload_n 0, 1) := by decide +kernel
theorem dX1_addThief_29 : decode cX1_addThief 29 = .ok (.getfield 25, 3) := by decide +kernel
theorem dX1_addThief_32 : decode cX1_addThief 32 = .ok (.aload_n 0, 1) := by decide +kernel
theorem dX1_addThief_33 : decode cX1_addThief 33 = .ok (.getfield 45, 3) := by decide +kernel
theorem dX1_addThief_36 : decode cX1_addThief 36 = .ok (.iload 4, 2) := by decide +kernel
theorem dX1_addThief_38 : decode cX1_addThief 38 = .ok (.iastore, 1) := by decide +kernel
theorem dX1_addThief_39 : decode cX1_addThief 39 = .ok (.aload_n 0, 1) := by decide +kernel
theorem dX1_addThief_40 : decode cX1_addThief 40 = .ok (.getfield 28, 3) := by decide +kernel
theorem dX1_addThief_43 : decode cX1_addThief 43 = .ok (.aload_n 0, 1) := by decide +kernel
theorem dX1_addThief_44 : decode cX1_addThief 44 = .ok (.getfield 45, 3) := by decide +kernel
theorem dX1_addThief_47 : decode cX1_addThief 47 = .ok (.iload 6, 2) := by decide +kernel
theorem dX1_addThief_49 : decode cX1_addThief 49 = .ok (.iastore, 1) := by decide +kernel
theorem dX1_addThief_50 : decode cX1_addThief 50 = .ok (.aload_n 0, 1) := by decide +kernel
theorem dX1_addThief_51 : decode cX1_addThief 51 = .ok (.getfield 37, 3) := by decide +kernel
theorem dX1_addThief_54 : decode cX1_addThief 54 = .ok (.getfield 61, 3) := by decide +kernel
theorem dX1_addThief_57 : decode cX1_addThief 57 = .ok (.aload_n 0, 1) := by decide +kernel
theorem dX1_addThief_58 : decode cX1_addThief 58 = .ok (.getfield 45, 3) := by decide +kernel
theorem dX1_addThief_61 : decode cX1_addThief 61 = .ok (.iload 5, 2) := by decide +kernel
theorem dX1_addThief_63 : decode cX1_addThief 63 = .ok (.iastore, 1) := by decide +kernel
theorem dX1_addThief_64 : decode cX1_addThief 64 = .ok (.aload_n 0, 1) := by decide +kernel
theorem dX1_addThief_65 : decode cX1_addThief 65 = .ok (.dup, 1) := by decide +kernel
theorem dX1_addThief_66 : decode cX1_addThief 66 = .ok (.getfield 45, 3) := by decide +kernel
theorem dX1_addThief_69 : decode cX1_addThief 69 = .ok (.iconst 1, 1) := by decide +kernel
theorem dX1_addThief_70 : decode cX1_addThief 70 = .ok (.iadd, 1) := by decide +kernel
theorem dX1_addThief_71 : decode cX1_addThief 71 = .ok (.putfield 45, 3) := by decide +kernel
theorem dX1_addThief_74 : decode cX1_addThief 74 = .ok (.return_, 1) := by decide +kernel
theorem dX1_addExpert_0 : decode cX1_addExpert 0 = .ok (.aload_n 0, 1) := by decide +kernel
theorem dX1_addExpert_1 : decode cX1_addExpert 1 = .ok (.getfield 48, 3) := by decide +kernel
theorem dX1_addExpert_4 : decode cX1_addExpert 4 = .ok (.iconst 4, 1) := by decide +kernel
theorem dX1_addExpert_5 : decode cX1_addExpert 5 = .ok (.if_icmp .ge 33, 3) := by decide +kernel
theorem dX1_addExpert_8 : decode cX1_addExpert 8 = .ok (.aload_n 0, 1) := by decide +kernel
theorem dX1_addExpert_9 : decode cX1_addExpert 9 = .ok (.getfield 18, 3) := by decide +kernel
theorem dX1_addExpert_12 : decode cX1_addExpert 12 = .ok (.aload_n 0, 1) := by decide +kernel
theorem dX1_addExpert_13 : decode cX1_addExpert 13 = .ok (.getfield 48, 3) := by decide +kernel
theorem dX1_addExpert_16 : decode cX1_addExpert 16 = .ok (.lload_n 1, 1) := by decide +kernel
theorem dX1_addExpert_17 : decode cX1_addExpert 17 = .ok (.lastore, 1) := by decide +kernel
theorem dX1_addExpert_18 : decode cX1_addExpert 18 = .ok (.aload_n 0, 1) := by decide +kernel
theorem dX1_addExpert_19 : decode cX1_addExpert 19 = .ok (.getfield 31, 3) := by decide +kernel
theorem dX1_addExpert_22 : decode cX1_addExpert 22 = .ok (.aload_n 0, 1) := by decide +kernel
theorem dX1_addExpert_23 : decode cX1_addExpert 23 = .ok (.getfield 48, 3) := by decide +kernel
theorem dX1_addExpert_26 : decode cX1_addExpert 26 = .ok (.iload_n 3, 1) := by decide +kernel
theorem dX1_addExpert_27 : decode cX1_addExpert 27 = .ok (.iastore, 1) := by decide +kernel
theorem dX1_addExpert_28 : decode cX1_addExpert 28 = .ok (.aload_n 0, 1) := by decide +kernel
theorem dX1_addExpert_29 : decode cX1_addExpert 29 = .ok (.dup, 1) := by decide +kernel
theorem dX1_addExpert_30 : decode cX1_addExpert 30 = .ok (.getfield 48, 3) := by decide +kernel
theorem dX1_addExpert_33 : decode cX1_addExpert 33 = .ok (.iconst 1, 1) := by decide +kernel
theorem dX1_addExpert_34 : decode cX1_addExpert 34 = .ok (.iadd, 1) := by decide +kernel
theorem dX1_addExpert_35 : decode cX1_addExpert 35 = .ok (.putfield 48, 3) := by decide +kernel
theorem dX1_addExpert_38 : decode cX1_addExpert 38 = .ok (.return_, 1) := by decide +kernel
theorem dX1_placeOf_0 : decode cX1_placeOf 0 = .ok (.iconst 0, 1) := by decide +kernel
theorem dX1_placeOf_1 : decode cX1_placeOf 1 = .ok (.istore 4, 2) := by decide +kernel
theorem dX1_placeOf_3 : decode cX1_placeOf 3 = .ok (.iload 4, 2) := by decide +kernel
theorem dX1_placeOf_5 : decode cX1_placeOf 5 = .ok (.iload_n 3, 1) := by decide +kernel
theorem dX1_placeOf_6 : decode cX1_placeOf 6 = .ok (.if_icmp .ge 28, 3) := by decide +kernel
theorem dX1_placeOf_9 : decode cX1_placeOf 9 = .ok (.iload 4, 2) := by decide +kernel
theorem dX1_placeOf_11 : decode cX1_placeOf 11 = .ok (.aload_n 2, 1) := by decide +kernel
theorem dX1_placeOf_12 : decode cX1_placeOf 12 = .ok (.arraylength, 1) := by decide +kernel
theorem dX1_placeOf_13 : decode cX1_placeOf 13 = .ok (.if_icmp .ge 21, 3) := by decide +kernel
theorem dX1_placeOf_16 : decode cX1_placeOf 16 = .ok (.aload_n 2, 1) := by decide +kernel
theorem dX1_placeOf_17 : decode cX1_placeOf 17 = .ok (.iload 4, 2) := by decide +kernel
theorem dX1_placeOf_19 : decode cX1_placeOf 19 = .ok (.laload, 1) := by decide +kernel
theorem dX1_placeOf_20 : decode cX1_placeOf 20 = .ok (.lload_n 0, 1) := by decide +kernel
theorem dX1_placeOf_21 : decode cX1_placeOf 21 = .ok (.lcmp, 1) := by decide +kernel
theorem dX1_placeOf_22 : decode cX1_placeOf 22 = .ok (.ifCond .ne 6, 3) := by decide +kernel
theorem dX1_placeOf_25 : decode cX1_placeOf 25 = .ok (.iload 4, 2) := by decide +kernel
theorem dX1_placeOf_27 : decode cX1_placeOf 27 = .ok (.ireturn, 1) := by decide +kernel
theorem dX1_placeOf_28 : decode cX1_placeOf 28 = .ok (.iinc 4 1, 3) := by decide +kernel
theorem dX1_placeOf_31 : decode cX1_placeOf 31 = .ok (.goto (-28), 3) := by decide +kernel
theorem dX1_placeOf_34 : decode cX1_placeOf 34 = .ok (.iconst (-1), 1) := by decide +kernel
theorem dX1_placeOf_35 : decode cX1_placeOf 35 = .ok (.ireturn, 1) := by decide +kernel
theorem dX1_isTold_0 : decode cX1_isTold 0 = .ok (.lload_n 1, 1) := by decide +kernel
theorem dX1_isTold_1 : decode cX1_isTold 1 = .ok (.aload_n 0, 1) := by decide +kernel
theorem dX1_isTold_2 : decode cX1_isTold 2 = .ok (.getfield 9, 3) := by decide +kernel
theorem dX1_isTold_5 : decode cX1_isTold 5 = .ok (.aload_n 0, 1) := by decide +kernel
theorem dX1_isTold_6 : decode cX1_isTold 6 = .ok (.getfield 41, 3) := by decide +kernel
theorem dX1_isTold_9 : decode cX1_isTold 9 = .ok (.invokestatic 64, 3) := by decide +kernel
theorem dX1_isTold_12 : decode cX1_isTold 12 = .ok (.iconst (-1), 1) := by decide +kernel
theorem dX1_isTold_13 : decode cX1_isTold 13 = .ok (.if_icmp .ne 35, 3) := by decide +kernel
theorem dX1_isTold_16 : decode cX1_isTold 16 = .ok (.lload_n 1, 1) := by decide +kernel
theorem dX1_isTold_17 : decode cX1_isTold 17 = .ok (.aload_n 0, 1) := by decide +kernel
theorem dX1_isTold_18 : decode cX1_isTold 18 = .ok (.getfield 15, 3) := by decide +kernel
theorem dX1_isTold_21 : decode cX1_isTold 21 = .ok (.aload_n 0, 1) := by decide +kernel
theorem dX1_isTold_22 : decode cX1_isTold 22 = .ok (.getfield 45, 3) := by decide +kernel
theorem dX1_isTold_25 : decode cX1_isTold 25 = .ok (.invokestatic 64, 3) := by decide +kernel
theorem dX1_isTold_28 : decode cX1_isTold 28 = .ok (.iconst (-1), 1) := by decide +kernel
theorem dX1_isTold_29 : decode cX1_isTold 29 = .ok (.if_icmp .ne 19, 3) := by decide +kernel
theorem dX1_isTold_32 : decode cX1_isTold 32 = .ok (.lload_n 1, 1) := by decide +kernel
theorem dX1_isTold_33 : decode cX1_isTold 33 = .ok (.aload_n 0, 1) := by decide +kernel
theorem dX1_isTold_34 : decode cX1_isTold 34 = .ok (.getfield 18, 3) := by decide +kernel
theorem dX1_isTold_37 : decode cX1_isTold 37 = .ok (.aload_n 0, 1) := by decide +kernel
theorem dX1_isTold_38 : decode cX1_isTold 38 = .ok (.getfield 48, 3) := by decide +kernel
theorem dX1_isTold_41 : decode cX1_isTold 41 = .ok (.invokestatic 64, 3) := by decide +kernel
theorem dX1_isTold_44 : decode cX1_isTold 44 = .ok (.iconst (-1), 1) := by decide +kernel
theorem dX1_isTold_45 : decode cX1_isTold 45 = .ok (.if_icmp .eq 7, 3) := by decide +kernel
theorem dX1_isTold_48 : decode cX1_isTold 48 = .ok (.iconst 1, 1) := by decide +kernel
theorem dX1_isTold_49 : decode cX1_isTold 49 = .ok (.goto 4, 3) := by decide +kernel
theorem dX1_isTold_52 : decode cX1_isTold 52 = .ok (.iconst 0, 1) := by decide +kernel
theorem dX1_isTold_53 : decode cX1_isTold 53 = .ok (.ireturn, 1) := by decide +kernel
theorem dX1_spotAt_0 : decode cX1_spotAt 0 = .ok (.aload_n 1, 1) := by decide +kernel
theorem dX1_spotAt_1 : decode cX1_spotAt 1 = .ok (.aload_n 0, 1) := by decide +kernel
theorem dX1_spotAt_2 : decode cX1_spotAt 2 = .ok (.getfield 9, 3) := by decide +kernel
theorem dX1_spotAt_5 : decode cX1_spotAt 5 = .ok (.aload_n 0, 1) := by decide +kernel
theorem dX1_spotAt_6 : decode cX1_spotAt 6 = .ok (.getfield 41, 3) := by decide +kernel
theorem dX1_spotAt_9 : decode cX1_spotAt 9 = .ok (.invokestatic 68, 3) := by decide +kernel
theorem dX1_spotAt_12 : decode cX1_spotAt 12 = .ok (.ireturn, 1) := by decide +kernel
theorem dX1_takeThief_0 : decode cX1_takeThief 0 = .ok (.aload_n 1, 1) := by decide +kernel
theorem dX1_takeThief_1 : decode cX1_takeThief 1 = .ok (.aload_n 0, 1) := by decide +kernel
theorem dX1_takeThief_2 : decode cX1_takeThief 2 = .ok (.getfield 15, 3) := by decide +kernel
theorem dX1_takeThief_5 : decode cX1_takeThief 5 = .ok (.aload_n 0, 1) := by decide +kernel
theorem dX1_takeThief_6 : decode cX1_takeThief 6 = .ok (.getfield 45, 3) := by decide +kernel
theorem dX1_takeThief_9 : decode cX1_takeThief 9 = .ok (.invokestatic 68, 3) := by decide +kernel
theorem dX1_takeThief_12 : decode cX1_takeThief 12 = .ok (.istore_n 2, 1) := by decide +kernel
theorem dX1_takeThief_13 : decode cX1_takeThief 13 = .ok (.aload_n 1, 1) := by decide +kernel
theorem dX1_takeThief_14 : decode cX1_takeThief 14 = .ok (.invokevirtual 72, 3) := by decide +kernel
theorem dX1_takeThief_17 : decode cX1_takeThief 17 = .ok (.iload_n 2, 1) := by decide +kernel
theorem dX1_takeThief_18 : decode cX1_takeThief 18 = .ok (.ireturn, 1) := by decide +kernel
theorem dX1_toldAt_0 : decode cX1_toldAt 0 = .ok (.iconst (-1), 1) := by decide +kernel
theorem dX1_toldAt_1 : decode cX1_toldAt 1 = .ok (.istore_n 3, 1) := by decide +kernel
theorem dX1_toldAt_2 : decode cX1_toldAt 2 = .ok (.aload_n 0, 1) := by decide +kernel
theorem dX1_toldAt_3 : decode cX1_toldAt 3 = .ok (.invokevirtual 77, 3) := by decide +kernel
theorem dX1_toldAt_6 : decode cX1_toldAt 6 = .ok (.ifCond .ne 11, 3) := by decide +kernel
theorem dX1_toldAt_9 : decode cX1_toldAt 9 = .ok (.aload_n 0, 1) := by decide +kernel
theorem dX1_toldAt_10 : decode cX1_toldAt 10 = .ok (.iconst 1, 1) := by decide +kernel
theorem dX1_toldAt_11 : decode cX1_toldAt 11 = .ok (.invokevirtual 81, 3) := by decide +kernel
theorem dX1_toldAt_14 : decode cX1_toldAt 14 = .ok (.goto 23, 3) := by decide +kernel
theorem dX1_toldAt_17 : decode cX1_toldAt 17 = .ok (.aload_n 0, 1) := by decide +kernel
theorem dX1_toldAt_18 : decode cX1_toldAt 18 = .ok (.invokevirtual 85, 3) := by decide +kernel
theorem dX1_toldAt_21 : decode cX1_toldAt 21 = .ok (.aload_n 1, 1) := by decide +kernel
theorem dX1_toldAt_22 : decode cX1_toldAt 22 = .ok (.iload_n 2, 1) := by decide +kernel
theorem dX1_toldAt_23 : decode cX1_toldAt 23 = .ok (.invokestatic 64, 3) := by decide +kernel
theorem dX1_toldAt_26 : decode cX1_toldAt 26 = .ok (.istore_n 3, 1) := by decide +kernel
theorem dX1_toldAt_27 : decode cX1_toldAt 27 = .ok (.iload_n 3, 1) := by decide +kernel
theorem dX1_toldAt_28 : decode cX1_toldAt 28 = .ok (.iconst (-1), 1) := by decide +kernel
theorem dX1_toldAt_29 : decode cX1_toldAt 29 = .ok (.if_icmp .ne 8, 3) := by decide +kernel
theorem dX1_toldAt_32 : decode cX1_toldAt 32 = .ok (.aload_n 0, 1) := by decide +kernel
theorem dX1_toldAt_33 : decode cX1_toldAt 33 = .ok (.iconst 2, 1) := by decide +kernel
theorem dX1_toldAt_34 : decode cX1_toldAt 34 = .ok (.invokevirtual 81, 3) := by decide +kernel
theorem dX1_toldAt_37 : decode cX1_toldAt 37 = .ok (.iload_n 3, 1) := by decide +kernel
theorem dX1_toldAt_38 : decode cX1_toldAt 38 = .ok (.ireturn, 1) := by decide +kernel
theorem dX1_thievesAt_0 : decode cX1_thievesAt 0 = .ok (.iconst 0, 1) := by decide +kernel
theorem dX1_thievesAt_1 : decode cX1_thievesAt 1 = .ok (.istore_n 2, 1) := by decide +kernel
theorem dX1_thievesAt_2 : decode cX1_thievesAt 2 = .ok (.iconst 0, 1) := by decide +kernel
theorem dX1_thievesAt_3 : decode cX1_thievesAt 3 = .ok (.istore_n 3, 1) := by decide +kernel
theorem dX1_thievesAt_4 : decode cX1_thievesAt 4 = .ok (.iload_n 3, 1) := by decide +kernel
theorem dX1_thievesAt_5 : decode cX1_thievesAt 5 = .ok (.aload_n 0, 1) := by decide +kernel
theorem dX1_thievesAt_6 : decode cX1_thievesAt 6 = .ok (.getfield 45, 3) := by decide +kernel
theorem dX1_thievesAt_9 : decode cX1_thievesAt 9 = .ok (.if_icmp .ge 24, 3) := by decide +kernel
theorem dX1_thievesAt_12 : decode cX1_thievesAt 12 = .ok (.iload_n 2, 1) := by decide +kernel
theorem dX1_thievesAt_13 : decode cX1_thievesAt 13 = .ok (.aload_n 0, 1) := by decide +kernel
theorem dX1_thievesAt_14 : decode cX1_thievesAt 14 = .ok (.getfield 28, 3) := by decide +kernel
theorem dX1_thievesAt_17 : decode cX1_thievesAt 17 = .ok (.iload_n 3, 1) := by decide +kernel
theorem dX1_thievesAt_18 : decode cX1_thievesAt 18 = .ok (.iaload, 1) := by decide +kernel
theorem dX1_thievesAt_19 : decode cX1_thievesAt 19 = .ok (.iload_n 1, 1) := by decide +kernel
theorem dX1_thievesAt_20 : decode cX1_thievesAt 20 = .ok (.ishr, 1) := by decide +kernel
theorem dX1_thievesAt_21 : decode cX1_thievesAt 21 = .ok (.iconst 1, 1) := by decide +kernel
theorem dX1_thievesAt_22 : decode cX1_thievesAt 22 = .ok (.iand, 1) := by decide +kernel
theorem dX1_thievesAt_23 : decode cX1_thievesAt 23 = .ok (.iload_n 3, 1) := by decide +kernel
theorem dX1_thievesAt_24 : decode cX1_thievesAt 24 = .ok (.ishl, 1) := by decide +kernel
theorem dX1_thievesAt_25 : decode cX1_thievesAt 25 = .ok (.ior, 1) := by decide +kernel
theorem dX1_thievesAt_26 : decode cX1_thievesAt 26 = .ok (.istore_n 2, 1) := by decide +kernel
theorem dX1_thievesAt_27 : decode cX1_thievesAt 27 = .ok (.iinc 3 1, 3) := by decide +kernel
theorem dX1_thievesAt_30 : decode cX1_thievesAt 30 = .ok (.goto (-26), 3) := by decide +kernel
theorem dX1_thievesAt_33 : decode cX1_thievesAt 33 = .ok (.iload_n 2, 1) := by decide +kernel
theorem dX1_thievesAt_34 : decode cX1_thievesAt 34 = .ok (.ireturn, 1) := by decide +kernel
theorem dX2_init_0 : decode cX2_init 0 = .ok (.aload_n 0, 1) := by decide +kernel
theorem dX2_init_1 : decode cX2_init 1 = .ok (.invokespecial 3, 3) := by decide +kernel
theorem dX2_init_4 : decode cX2_init 4 = .ok (.aload_n 0, 1) := by decide +kernel
theorem dX2_init_5 : decode cX2_init 5 = .ok (.aload_n 1, 1) := by decide +kernel
theorem dX2_init_6 : decode cX2_init 6 = .ok (.putfield 9, 3) := by decide +kernel
theorem dX2_init_9 : decode cX2_init 9 = .ok (.aload_n 0, 1) := by decide +kernel
theorem dX2_init_10 : decode cX2_init 10 = .ok (.new 15, 3) := by decide +kernel
theorem dX2_init_13 : decode cX2_init 13 = .ok (.dup, 1) := by decide +kernel
theorem dX2_init_14 : decode cX2_init 14 = .ok (.aload_n 1, 1) := by decide +kernel
theorem dX2_init_15 : decode cX2_init 15 = .ok (.invokespecial 17, 3) := by decide +kernel
theorem dX2_init_18 : decode cX2_init 18 = .ok (.putfield 20, 3) := by decide +kernel
theorem dX2_init_21 : decode cX2_init 21 = .ok (.return_, 1) := by decide +kernel
theorem dX2_read_0 : decode cX2_read 0 = .ok (.aload_n 1, 1) := by decide +kernel
theorem dX2_read_1 : decode cX2_read 1 = .ok (.invokevirtual 24, 3) := by decide +kernel
theorem dX2_read_4 : decode cX2_read 4 = .ok (.aload_n 0, 1) := by decide +kernel
theorem dX2_read_5 : decode cX2_read 5 = .ok (.getfield 9, 3) := by decide +kernel
theorem dX2_read_8 : decode cX2_read 8 = .ok (.invokevirtual 29, 3) := by decide +kernel
theorem dX2_read_11 : decode cX2_read 11 = .ok (.iconst 0, 1) := by decide +kernel
theorem dX2_read_12 : decode cX2_read 12 = .ok (.istore_n 2, 1) := by decide +kernel
theorem dX2_read_13 : decode cX2_read 13 = .ok (.iload_n 2, 1) := by decide +kernel
theorem dX2_read_14 : decode cX2_read 14 = .ok (.sipush 1000, 3) := by decide +kernel
theorem dX2_read_17 : decode cX2_read 17 = .ok (.if_icmp .ge 129, 3) := by decide +kernel
theorem dX2_read_20 : decode cX2_read 20 = .ok (.aload_n 0, 1) := by decide +kernel
theorem dX2_read_21 : decode cX2_read 21 = .ok (.getfield 9, 3) := by decide +kernel
theorem dX2_read_24 : decode cX2_read 24 = .ok (.invokevirtual 34, 3) := by decide +kernel
theorem dX2_read_27 : decode cX2_read 27 = .ok (.ifCond .eq 119, 3) := by decide +kernel
theorem dX2_read_30 : decode cX2_read 30 = .ok (.getstatic 38, 3) := by decide +kernel
theorem dX2_read_33 : decode cX2_read 33 = .ok (.aload_n 0, 1) := by decide +kernel
theorem dX2_read_34 : decode cX2_read 34 = .ok (.getfield 9, 3) := by decide +kernel
theorem dX2_read_37 : decode cX2_read 37 = .ok (.invokevirtual 44, 3) := by decide +kernel
theorem dX2_read_40 : decode cX2_read 40 = .ok (.invokevirtual 48, 3) := by decide +kernel
theorem dX2_read_43 : decode cX2_read 43 = .ok (.iaload, 1) := by decide +kernel
theorem dX2_read_44 : decode cX2_read 44 = .ok (.tableswitch 88 1 6 #[40, 48, 56, 64, 72, 80], 40) := by decide +kernel
theorem dX2_read_84 : decode cX2_read 84 = .ok (.aload_n 0, 1) := by decide +kernel
theorem dX2_read_85 : decode cX2_read 85 = .ok (.aload_n 1, 1) := by decide +kernel
theorem dX2_read_86 : decode cX2_read 86 = .ok (.invokevirtual 54, 3) := by decide +kernel
theorem dX2_read_89 : decode cX2_read 89 = .ok (.goto 51, 3) := by decide +kernel
theorem dX2_read_92 : decode cX2_read 92 = .ok (.aload_n 0, 1) := by decide +kernel
theorem dX2_read_93 : decode cX2_read 93 = .ok (.aload_n 1, 1) := by decide +kernel
theorem dX2_read_94 : decode cX2_read 94 = .ok (.invokevirtual 58, 3) := by decide +kernel
theorem dX2_read_97 : decode cX2_read 97 = .ok (.goto 43, 3) := by decide +kernel
theorem dX2_read_100 : decode cX2_read 100 = .ok (.aload_n 0, 1) := by decide +kernel
theorem dX2_read_101 : decode cX2_read 101 = .ok (.aload_n 1, 1) := by decide +kernel
theorem dX2_read_102 : decode cX2_read 102 = .ok (.invokevirtual 61, 3) := by decide +kernel
theorem dX2_read_105 : decode cX2_read 105 = .ok (.goto 35, 3) := by decide +kernel
theorem dX2_read_108 : decode cX2_read 108 = .ok (.aload_n 0, 1) := by decide +kernel
theorem dX2_read_109 : decode cX2_read 109 = .ok (.aload_n 1, 1) := by decide +kernel
theorem dX2_read_110 : decode cX2_read 110 = .ok (.invokevirtual 64, 3) := by decide +kernel
theorem dX2_read_113 : decode cX2_read 113 = .ok (.goto 27, 3) := by decide +kernel
theorem dX2_read_116 : decode cX2_read 116 = .ok (.aload_n 0, 1) := by decide +kernel
theorem dX2_read_117 : decode cX2_read 117 = .ok (.aload_n 1, 1) := by decide +kernel
theorem dX2_read_118 : decode cX2_read 118 = .ok (.invokevirtual 67, 3) := by decide +kernel
theorem dX2_read_121 : decode cX2_read 121 = .ok (.goto 19, 3) := by decide +kernel
theorem dX2_read_124 : decode cX2_read 124 = .ok (.aload_n 0, 1) := by decide +kernel
theorem dX2_read_125 : decode cX2_read 125 = .ok (.aload_n 1, 1) := by decide +kernel
theorem dX2_read_126 : decode cX2_read 126 = .ok (.invokevirtual 70, 3) := by decide +kernel
theorem dX2_read_129 : decode cX2_read 129 = .ok (.goto 11, 3) := by decide +kernel
theorem dX2_read_132 : decode cX2_read 132 = .ok (.aload_n 0, 1) := by decide +kernel
theorem dX2_read_133 : decode cX2_read 133 = .ok (.getfield 9, 3) := by decide +kernel
theorem dX2_read_136 : decode cX2_read 136 = .ok (.iconst 1, 1) := by decide +kernel
theorem dX2_read_137 : decode cX2_read 137 = .ok (.invokevirtual 73, 3) := by decide +kernel
theorem dX2_read_140 : decode cX2_read 140 = .ok (.iinc 2 1, 3) := by decide +kernel
theorem dX2_read_143 : decode cX2_read 143 = .ok (.goto (-130), 3) := by decide +kernel
theorem dX2_read_146 : decode cX2_read 146 = .ok (.aload_n 0, 1) := by decide +kernel
theorem dX2_read_147 : decode cX2_read 147 = .ok (.getfield 9, 3) := by decide +kernel
theorem dX2_read_150 : decode cX2_read 150 = .ok (.invokevirtual 77, 3) := by decide +kernel
theorem dX2_read_153 : decode cX2_read 153 = .ok (.ireturn, 1) := by decide +kernel
theorem dX2_takeNewName_0 : decode cX2_takeNewName 0 = .ok (.aload_n 0, 1) := by decide +kernel
theorem dX2_takeNewName_1 : decode cX2_takeNewName 1 = .ok (.getfield 9, 3) := by decide +kernel
theorem dX2_takeNewName_4 : decode cX2_takeNewName 4 = .ok (.invokevirtual 80, 3) := by decide +kernel
theorem dX2_takeNewName_7 : decode cX2_takeNewName 7 = .ok (.lstore_n 2, 1) := by decide +kernel
theorem dX2_takeNewName_8 : decode cX2_takeNewName 8 = .ok (.aload_n 0, 1) := by decide +kernel
theorem dX2_takeNewName_9 : decode cX2_takeNewName 9 = .ok (.getfield 9, 3) := by decide +kernel
theorem dX2_takeNewName_12 : decode cX2_takeNewName 12 = .ok (.invokevirtual 84, 3) := by decide +kernel
theorem dX2_takeNewName_15 : decode cX2_takeNewName 15 = .ok (.ifCond .ne 14, 3) := by decide +kernel
theorem dX2_takeNewName_18 : decode cX2_takeNewName 18 = .ok (.aload_n 0, 1) := by decide +kernel
theorem dX2_takeNewName_19 : decode cX2_takeNewName 19 = .ok (.getfield 9, 3) := by decide +kernel
theorem dX2_takeNewName_22 : decode cX2_takeNewName 22 = .ok (.iconst 1, 1) := by decide +kernel
theorem dX2_takeNewName_23 : decode cX2_takeNewName 23 = .ok (.invokevirtual 73, 3) := by decide +kernel
theorem dX2_takeNewName_26 : decode cX2_takeNewName 26 = .ok (.goto 24, 3) := by decide +kernel
theorem dX2_takeNewName_29 : decode cX2_takeNewName 29 = .ok (.aload_n 0, 1) := by decide +kernel
theorem dX2_takeNewName_30 : decode cX2_takeNewName 30 = .ok (.getfield 9, 3) := by decide +kernel
theorem dX2_takeNewName_33 : decode cX2_takeNewName 33 = .ok (.aload_n 1, 1) := by decide +kernel
theorem dX2_takeNewName_34 : decode cX2_takeNewName 34 = .ok (.lload_n 2, 1) := by decide +kernel
theorem dX2_takeNewName_35 : decode cX2_takeNewName 35 = .ok (.invokevirtual 87, 3) := by decide +kernel
theorem dX2_takeNewName_38 : decode cX2_takeNewName 38 = .ok (.ifCond .ne 7, 3) := by decide +kernel
theorem dX2_takeNewName_41 : decode cX2_takeNewName 41 = .ok (.iconst 1, 1) := by decide +kernel
theorem dX2_takeNewName_42 : decode cX2_takeNewName 42 = .ok (.goto 4, 3) := by decide +kernel
theorem dX2_takeNewName_45 : decode cX2_takeNewName 45 = .ok (.iconst 0, 1) := by decide +kernel
theorem dX2_takeNewName_46 : decode cX2_takeNewName 46 = .ok (.iconst 3, 1) := by decide +kernel
theorem dX2_takeNewName_47 : decode cX2_takeNewName 47 = .ok (.invokevirtual 91, 3) := by decide +kernel
theorem dX2_takeNewName_50 : decode cX2_takeNewName 50 = .ok (.lload_n 2, 1) := by decide +kernel
theorem dX2_takeNewName_51 : decode cX2_takeNewName 51 = .ok (.lreturn, 1) := by decide +kernel
theorem dX2_readSpot_0 : decode cX2_readSpot 0 = .ok (.aload_n 0, 1) := by decide +kernel
theorem dX2_readSpot_1 : decode cX2_readSpot 1 = .ok (.getfield 9, 3) := by decide +kernel
theorem dX2_readSpot_4 : decode cX2_readSpot 4 = .ok (.aload_n 1, 1) := by decide +kernel
theorem dX2_readSpot_5 : decode cX2_readSpot 5 = .ok (.getfield 95, 3) := by decide +kernel
theorem dX2_readSpot_8 : decode cX2_readSpot 8 = .ok (.bipush 8, 2) := by decide +kernel
theorem dX2_readSpot_10 : decode cX2_readSpot 10 = .ok (.if_icmp .ge 7, 3) := by decide +kernel
theorem dX2_readSpot_13 : decode cX2_readSpot 13 = .ok (.iconst 1, 1) := by decide +kernel
theorem dX2_readSpot_14 : decode cX2_readSpot 14 = .ok (.goto 4, 3) := by decide +kernel
theorem dX2_readSpot_17 : decode cX2_readSpot 17 = .ok (.iconst 0, 1) := by decide +kernel
theorem dX2_readSpot_18 : decode cX2_readSpot 18 = .ok (.iconst 5, 1) := by decide +kernel
theorem dX2_readSpot_19 : decode cX2_readSpot 19 = .ok (.invokevirtual 91, 3) := by decide +kernel
theorem dX2_readSpot_22 : decode cX2_readSpot 22 = .ok (.aload_n 0, 1) := by decide +kernel
theorem dX2_readSpot_23 : decode cX2_readSpot 23 = .ok (.aload_n 1, 1) := by decide +kernel
theorem dX2_readSpot_24 : decode cX2_readSpot 24 = .ok (.invokevirtual 99, 3) := by decide +kernel
theorem dX2_readSpot_27 : decode cX2_readSpot 27 = .ok (.lstore_n 2, 1) := by decide +kernel
theorem dX2_readSpot_28 : decode cX2_readSpot 28 = .ok (.aload_n 0, 1) := by decide +kernel
theorem dX2_readSpot_29 : decode cX2_readSpot 29 = .ok (.getfield 9, 3) := by decide +kernel
theorem dX2_readSpot_32 : decode cX2_readSpot 32 = .ok (.bipush 59, 2) := by decide +kernel
theorem dX2_readSpot_34 : decode cX2_readSpot 34 = .ok (.invokevirtual 103, 3) := by decide +kernel
theorem dX2_readSpot_37 : decode cX2_readSpot 37 = .ok (.aload_n 0, 1) := by decide +kernel
theorem dX2_readSpot_38 : decode cX2_readSpot 38 = .ok (.getfield 9, 3) := by decide +kernel
theorem dX2_readSpot_41 : decode cX2_readSpot 41 = .ok (.getfield 107, 3) := by decide +kernel
theorem dX2_readSpot_44 : decode cX2_readSpot 44 = .ok (.ifCond .ne 8, 3) := by decide +kernel
theorem dX2_readSpot_47 : decode cX2_readSpot 47 = .ok (.aload_n 1, 1) := by decide +kernel
theorem dX2_readSpot_48 : decode cX2_readSpot 48 = .ok (.lload_n 2, 1) := by decide +kernel
theorem dX2_readSpot_49 : decode cX2_readSpot 49 = .ok (.invokevirtual 110, 3) := by decide +kernel
theorem dX2_readSpot_52 : decode cX2_readSpot 52 = .ok (.return_, 1) := by decide +kernel
theorem dX2_readThief_0 : decode cX2_readThief 0 = .ok (.aload_n 0, 1) := by decide +kernel
theorem dX2_readThief_1 : decode cX2_readThief 1 = .ok (.getfield 9, 3) := by decide +kernel
theorem dX2_readThief_4 : decode cX2_readThief 4 = .ok (.aload_n 1, 1) := by decide +kernel
theorem dX2_readThief_5 : decode cX2_readThief 5 = .ok (.getfield 114, 3) := by decide +kernel
theorem dX2_readThief_8 : decode cX2_readThief 8 = .ok (.iconst 5, 1) := by decide +kernel
theorem dX2_readThief_9 : decode cX2_readThief 9 = .ok (.if_icmp .ge 7, 3) := by decide +kernel
theorem dX2_readThief_12 : decode cX2_readThief 12 = .ok (.iconst 1, 1) := by decide +kernel
theorem dX2_readThief_13 : decode cX2_readThief 13 = .ok (.goto 4, 3) := by decide +kernel
theorem dX2_readThief_16 : decode cX2_readThief 16 = .ok (.iconst 0, 1) := by decide +kernel
theorem dX2_readThief_17 : decode cX2_readThief 17 = .ok (.iconst 5, 1) := by decide +kernel
theorem dX2_readThief_18 : decode cX2_readThief 18 = .ok (.invokevirtual 91, 3) := by decide +kernel
theorem dX2_readThief_21 : decode cX2_readThief 21 = .ok (.aload_n 0, 1) := by decide +kernel
theorem dX2_readThief_22 : decode cX2_readThief 22 = .ok (.aload_n 1, 1) := by decide +kernel
theorem dX2_readThief_23 : decode cX2_readThief 23 = .ok (.invokevirtual 99, 3) := by decide +kernel
theorem dX2_readThief_26 : decode cX2_readThief 26 = .ok (.lstore_n 2, 1) := by decide +kernel
theorem dX2_readThief_27 : decode cX2_readThief 27 = .ok (.aload_n 0, 1) := by decide +kernel
theorem dX2_readThief_28 : decode cX2_readThief 28 = .ok (.invokevirtual 117, 3) := by decide +kernel
theorem dX2_readThief_31 : decode cX2_readThief 31 = .ok (.istore 4, 2) := by decide +kernel
theorem dX2_readThief_33 : decode cX2_readThief 33 = .ok (.aload_n 0, 1) := by decide +kernel
theorem dX2_readThief_34 : decode cX2_readThief 34 = .ok (.getfield 9, 3) := by decide +kernel
theorem dX2_readThief_37 : decode cX2_readThief 37 = .ok (.getstatic 120, 3) := by decide +kernel
theorem dX2_readThief_40 : decode cX2_readThief 40 = .ok (.invokevirtual 124, 3) := by decide +kernel
theorem dX2_readThief_43 : decode cX2_readThief 43 = .ok (.aload_n 0, 1) := by decide +kernel
theorem dX2_readThief_44 : decode cX2_readThief 44 = .ok (.getfield 9, 3) := by decide +kernel
theorem dX2_readThief_47 : decode cX2_readThief 47 = .ok (.bipush 100, 2) := by decide +kernel
theorem dX2_readThief_49 : decode cX2_readThief 49 = .ok (.invokevirtual 127, 3) := by decide +kernel
theorem dX2_readThief_52 : decode cX2_readThief 52 = .ok (.istore 5, 2) := by decide +kernel
theorem dX2_readThief_54 : decode cX2_readThief 54 = .ok (.aload_n 0, 1) := by decide +kernel
theorem dX2_readThief_55 : decode cX2_readThief 55 = .ok (.getfield 9, 3) := by decide +kernel
theorem dX2_readThief_58 : decode cX2_readThief 58 = .ok (.getstatic 131, 3) := by decide +kernel
theorem dX2_readThief_61 : decode cX2_readThief 61 = .ok (.invokevirtual 124, 3) := by decide +kernel
theorem dX2_readThief_64 : decode cX2_readThief 64 = .ok (.aload_n 0, 1) := by decide +kernel
theorem dX2_readThief_65 : decode cX2_readThief 65 = .ok (.getfield 9, 3) := by decide +kernel
theorem dX2_readThief_68 : decode cX2_readThief 68 = .ok (.sipush 1000, 3) := by decide +kernel
theorem dX2_readThief_71 : decode cX2_readThief 71 = .ok (.invokevirtual 127, 3) := by decide +kernel
theorem dX2_readThief_74 : decode cX2_readThief 74 = .ok (.istore 6, 2) := by decide +kernel
theorem dX2_readThief_76 : decode cX2_readThief 76 = .ok (.aload_n 0, 1) := by decide +kernel
theorem dX2_readThief_77 : decode cX2_readThief 77 = .ok (.getfield 9, 3) := by decide +kernel
theorem dX2_readThief_80 : decode cX2_readThief 80 = .ok (.getstatic 134, 3) := by decide +kernel
theorem dX2_readThief_83 : decode cX2_readThief 83 = .ok (.invokevirtual 124, 3) := by decide +kernel
theorem dX2_readThief_86 : decode cX2_readThief 86 = .ok (.aload_n 0, 1) := by decide +kernel
theorem dX2_readThief_87 : decode cX2_readThief 87 = .ok (.invokevirtual 137, 3) := by decide +kernel
theorem dX2_readThief_90 : decode cX2_readThief 90 = .ok (.istore 7, 2) := by decide +kernel
theorem dX2_readThief_92 : decode cX2_readThief 92 = .ok (.aload_n 0, 1) := by decide +kernel
theorem dX2_readThief_93 : decode cX2_readThief 93 = .ok (.getfield 9, 3) := by decide +kernel
theorem dX2_readThief_96 : decode cX2_readThief 96 = .ok (.bipush 59, 2) := by decide +kernel
theorem dX2_readThief_98 : decode cX2_readThief 98 = .ok (.invokevirtual 103, 3) := by decide +kernel
theorem dX2_readThief_101 : decode cX2_readThief 101 = .ok (.aload_n 0, 1) := by decide +kernel
theorem dX2_readThief_102 : decode cX2_readThief 102 = .ok (.getfield 9, 3) := by decide +kernel
theorem dX2_readThief_105 : decode cX2_readThief 105 = .ok (.getfield 107, 3) := by decide +kernel
theorem dX2_readThief_108 : decode cX2_readThief 108 = .ok (.ifCond .ne 16, 3) := by decide +kernel
theorem dX2_readThief_111 : decode cX2_readThief 111 = .ok (.aload_n 1, 1) := by decide +kernel
theorem dX2_readThief_112 : decode cX2_readThief 112 = .ok (.lload_n 2, 1) := by decide +kernel
theorem dX2_readThief_113 : decode cX2_readThief 113 = .ok (.iload 4, 2) := by decide +kernel
theorem dX2_readThief_115 : decode cX2_readThief 115 = .ok (.iload 5, 2) := by decide +kernel
theorem dX2_readThief_117 : decode cX2_readThief 117 = .ok (.iload 6, 2) := by decide +kernel
theorem dX2_readThief_119 : decode cX2_readThief 119 = .ok (.iload 7, 2) := by decide +kernel
theorem dX2_readThief_121 : decode cX2_readThief 121 = .ok (.invokevirtual 140, 3) := by decide +kernel
theorem dX2_readThief_124 : decode cX2_readThief 124 = .ok (.return_, 1) := by decide +kernel
theorem dX2_takeKind_0 : decode cX2_takeKind 0 = .ok (.aload_n 0, 1) := by decide +kernel
theorem dX2_takeKind_1 : decode cX2_takeKind 1 = .ok (.getfield 9, 3) := by decide +kernel
theorem dX2_takeKind_4 : decode cX2_takeKind 4 = .ok (.invokevirtual 44, 3) := by decide +kernel
theorem dX2_takeKind_7 : decode cX2_takeKind 7 = .ok (.invokestatic 144, 3) := by decide +kernel
theorem dX2_takeKind_10 : decode cX2_takeKind 10 = .ok (.istore_n 1, 1) := by decide +kernel
theorem dX2_takeKind_11 : decode cX2_takeKind 11 = .ok (.aload_n 0, 1) := by decide +kernel
theorem dX2_takeKind_12 : decode cX2_takeKind 12 = .ok (.getfield 9, 3) := by decide +kernel
theorem dX2_takeKind_15 : decode cX2_takeKind 15 = .ok (.iload_n 1, 1) := by decide +kernel
theorem dX2_takeKind_16 : decode cX2_takeKind 16 = .ok (.iconst (-1), 1) := by decide +kernel
theorem dX2_takeKind_17 : decode cX2_takeKind 17 = .ok (.if_icmp .eq 7, 3) := by decide +kernel
theorem dX2_takeKind_20 : decode cX2_takeKind 20 = .ok (.iconst 1, 1) := by decide +kernel
theorem dX2_takeKind_21 : decode cX2_takeKind 21 = .ok (.goto 4, 3) := by decide +kernel
theorem dX2_takeKind_24 : decode cX2_takeKind 24 = .ok (.iconst 0, 1) := by decide +kernel
theorem dX2_takeKind_25 : decode cX2_takeKind 25 = .ok (.iconst 1, 1) := by decide +kernel
theorem dX2_takeKind_26 : decode cX2_takeKind 26 = .ok (.invokevirtual 91, 3) := by decide +kernel
theorem dX2_takeKind_29 : decode cX2_takeKind 29 = .ok (.iload_n 1, 1) := by decide +kernel
theorem dX2_takeKind_30 : decode cX2_takeKind 30 = .ok (.ireturn, 1) := by decide +kernel
theorem dX2_kindOf_0 : decode cX2_kindOf 0 = .ok (.getstatic 38, 3) := by decide +kernel
theorem dX2_kindOf_3 : decode cX2_kindOf 3 = .ok (.aload_n 0, 1) := by decide +kernel
theorem dX2_kindOf_4 : decode cX2_kindOf 4 = .ok (.invokevirtual 48, 3) := by decide +kernel
theorem dX2_kindOf_7 : decode cX2_kindOf 7 = .ok (.iaload, 1) := by decide +kernel
theorem dX2_kindOf_8 : decode cX2_kindOf 8 = .ok (.tableswitch 40 7 10 #[32, 34, 36, 38], 32) := by decide +kernel
theorem dX2_kindOf_40 : decode cX2_kindOf 40 = .ok (.iconst 0, 1) := by decide +kernel
theorem dX2_kindOf_41 : decode cX2_kindOf 41 = .ok (.ireturn, 1) := by decide +kernel
theorem dX2_kindOf_42 : decode cX2_kindOf 42 = .ok (.iconst 1, 1) := by decide +kernel
theorem dX2_kindOf_43 : decode cX2_kindOf 43 = .ok (.ireturn, 1) := by decide +kernel
theorem dX2_kindOf_44 : decode cX2_kindOf 44 = .ok (.iconst 2, 1) := by decide +kernel
theorem dX2_kindOf_45 : decode cX2_kindOf 45 = .ok (.ireturn, 1) := by decide +kernel
theorem dX2_kindOf_46 : decode cX2_kindOf 46 = .ok (.iconst 3, 1) := by decide +kernel
theorem dX2_kindOf_47 : decode cX2_kindOf 47 = .ok (.ireturn, 1) := by decide +kernel
theorem dX2_kindOf_48 : decode cX2_kindOf 48 = .ok (.iconst (-1), 1) := by decide +kernel
theorem dX2_kindOf_49 : decode cX2_kindOf 49 = .ok (.ireturn, 1) := by decide +kernel
theorem dX2_takeHours_0 : decode cX2_takeHours 0 = .ok (.aload_n 0, 1) := by decide +kernel
theorem dX2_takeHours_1 : decode cX2_takeHours 1 = .ok (.iconst 0, 1) := by decide +kernel
theorem dX2_takeHours_2 : decode cX2_takeHours 2 = .ok (.invokevirtual 148, 3) := by decide +kernel
theorem dX2_takeHours_5 : decode cX2_takeHours 5 = .ok (.istore_n 1, 1) := by decide +kernel
theorem dX2_takeHours_6 : decode cX2_takeHours 6 = .ok (.iconst 0, 1) := by decide +kernel
theorem dX2_takeHours_7 : decode cX2_takeHours 7 = .ok (.istore_n 2, 1) := by decide +kernel
theorem dX2_takeHours_8 : decode cX2_takeHours 8 = .ok (.iload_n 2, 1) := by decide +kernel
theorem dX2_takeHours_9 : decode cX2_takeHours 9 = .ok (.iconst 4, 1) := by decide +kernel
theorem dX2_takeHours_10 : decode cX2_takeHours 10 = .ok (.if_icmp .ge 27, 3) := by decide +kernel
theorem dX2_takeHours_13 : decode cX2_takeHours 13 = .ok (.aload_n 0, 1) := by decide +kernel
theorem dX2_takeHours_14 : decode cX2_takeHours 14 = .ok (.getfield 9, 3) := by decide +kernel
theorem dX2_takeHours_17 : decode cX2_takeHours 17 = .ok (.invokevirtual 151, 3) := by decide +kernel
theorem dX2_takeHours_20 : decode cX2_takeHours 20 = .ok (.ifCond .eq 17, 3) := by decide +kernel
theorem dX2_takeHours_23 : decode cX2_takeHours 23 = .ok (.iload_n 1, 1) := by decide +kernel
theorem dX2_takeHours_24 : decode cX2_takeHours 24 = .ok (.aload_n 0, 1) := by decide +kernel
theorem dX2_takeHours_25 : decode cX2_takeHours 25 = .ok (.iload_n 1, 1) := by decide +kernel
theorem dX2_takeHours_26 : decode cX2_takeHours 26 = .ok (.invokevirtual 148, 3) := by decide +kernel
theorem dX2_takeHours_29 : decode cX2_takeHours 29 = .ok (.ior, 1) := by decide +kernel
theorem dX2_takeHours_30 : decode cX2_takeHours 30 = .ok (.istore_n 1, 1) := by decide +kernel
theorem dX2_takeHours_31 : decode cX2_takeHours 31 = .ok (.iinc 2 1, 3) := by decide +kernel
theorem dX2_takeHours_34 : decode cX2_takeHours 34 = .ok (.goto (-26), 3) := by decide +kernel
theorem dX2_takeHours_37 : decode cX2_takeHours 37 = .ok (.iload_n 1, 1) := by decide +kernel
theorem dX2_takeHours_38 : decode cX2_takeHours 38 = .ok (.ireturn, 1) := by decide +kernel
theorem dX2_takeHour_0 : decode cX2_takeHour 0 = .ok (.aload_n 0, 1) := by decide +kernel
theorem dX2_takeHour_1 : decode cX2_takeHour 1 = .ok (.getfield 9, 3) := by decide +kernel
theorem dX2_takeHour_4 : decode cX2_takeHour 4 = .ok (.invokevirtual 151, 3) := by decide +kernel
theorem dX2_takeHour_7 : decode cX2_takeHour 7 = .ok (.ifCond .ne 13, 3) := by decide +kernel
theorem dX2_takeHour_10 : decode cX2_takeHour 10 = .ok (.aload_n 0, 1) := by decide +kernel
theorem dX2_takeHour_11 : decode cX2_takeHour 11 = .ok (.getfield 9, 3) := by decide +kernel
theorem dX2_takeHour_14 : decode cX2_takeHour 14 = .ok (.iconst 1, 1) := by decide +kernel
theorem dX2_takeHour_15 : decode cX2_takeHour 15 = .ok (.invokevirtual 73, 3) := by decide +kernel
theorem dX2_takeHour_18 : decode cX2_takeHour 18 = .ok (.iconst 0, 1) := by decide +kernel
theorem dX2_takeHour_19 : decode cX2_takeHour 19 = .ok (.ireturn, 1) := by decide +kernel
theorem dX2_takeHour_20 : decode cX2_takeHour 20 = .ok (.aload_n 0, 1) := by decide +kernel
theorem dX2_takeHour_21 : decode cX2_takeHour 21 = .ok (.getfield 9, 3) := by decide +kernel
theorem dX2_takeHour_24 : decode cX2_takeHour 24 = .ok (.invokevirtual 154, 3) := by decide +kernel
theorem dX2_takeHour_27 : decode cX2_takeHour 27 = .ok (.bipush 24, 2) := by decide +kernel
theorem dX2_takeHour_29 : decode cX2_takeHour 29 = .ok (.if_icmp .lt 13, 3) := by decide +kernel
theorem dX2_takeHour_32 : decode cX2_takeHour 32 = .ok (.aload_n 0, 1) := by decide +kernel
theorem dX2_takeHour_33 : decode cX2_takeHour 33 = .ok (.getfield 9, 3) := by decide +kernel
theorem dX2_takeHour_36 : decode cX2_takeHour 36 = .ok (.iconst 4, 1) := by decide +kernel
theorem dX2_takeHour_37 : decode cX2_takeHour 37 = .ok (.invokevirtual 73, 3) := by decide +kernel
theorem dX2_takeHour_40 : decode cX2_takeHour 40 = .ok (.iconst 0, 1) := by decide +kernel
theorem dX2_takeHour_41 : decode cX2_takeHour 41 = .ok (.ireturn, 1) := by decide +kernel
theorem dX2_takeHour_42 : decode cX2_takeHour 42 = .ok (.iconst 1, 1) := by decide +kernel
theorem dX2_takeHour_43 : decode cX2_takeHour 43 = .ok (.aload_n 0, 1) := by decide +kernel
theorem dX2_takeHour_44 : decode cX2_takeHour 44 = .ok (.getfield 9, 3) := by decide +kernel
theorem dX2_takeHour_47 : decode cX2_takeHour 47 = .ok (.invokevirtual 154, 3) := by decide +kernel
theorem dX2_takeHour_50 : decode cX2_takeHour 50 = .ok (.ishl, 1) := by decide +kernel
theorem dX2_takeHour_51 : decode cX2_takeHour 51 = .ok (.istore_n 2, 1) := by decide +kernel
theorem dX2_takeHour_52 : decode cX2_takeHour 52 = .ok (.aload_n 0, 1) := by decide +kernel
theorem dX2_takeHour_53 : decode cX2_takeHour 53 = .ok (.iload_n 1, 1) := by decide +kernel
theorem dX2_takeHour_54 : decode cX2_takeHour 54 = .ok (.iload_n 2, 1) := by decide +kernel
theorem dX2_takeHour_55 : decode cX2_takeHour 55 = .ok (.iconst 4, 1) := by decide +kernel
theorem dX2_takeHour_56 : decode cX2_takeHour 56 = .ok (.invokevirtual 157, 3) := by decide +kernel
theorem dX2_takeHour_59 : decode cX2_takeHour 59 = .ok (.iload_n 2, 1) := by decide +kernel
theorem dX2_takeHour_60 : decode cX2_takeHour 60 = .ok (.ireturn, 1) := by decide +kernel
theorem dX2_takeOnce_0 : decode cX2_takeOnce 0 = .ok (.iload_n 1, 1) := by decide +kernel
theorem dX2_takeOnce_1 : decode cX2_takeOnce 1 = .ok (.iload_n 2, 1) := by decide +kernel
theorem dX2_takeOnce_2 : decode cX2_takeOnce 2 = .ok (.iand, 1) := by decide +kernel
theorem dX2_takeOnce_3 : decode cX2_takeOnce 3 = .ok (.ifCond .eq 14, 3) := by decide +kernel
theorem dX2_takeOnce_6 : decode cX2_takeOnce 6 = .ok (.aload_n 0, 1) := by decide +kernel
theorem dX2_takeOnce_7 : decode cX2_takeOnce 7 = .ok (.getfield 9, 3) := by decide +kernel
theorem dX2_takeOnce_10 : decode cX2_takeOnce 10 = .ok (.iconst 3, 1) := by decide +kernel
theorem dX2_takeOnce_11 : decode cX2_takeOnce 11 = .ok (.invokevirtual 73, 3) := by decide +kernel
theorem dX2_takeOnce_14 : decode cX2_takeOnce 14 = .ok (.goto 24, 3) := by decide +kernel
theorem dX2_takeOnce_17 : decode cX2_takeOnce 17 = .ok (.aload_n 0, 1) := by decide +kernel
theorem dX2_takeOnce_18 : decode cX2_takeOnce 18 = .ok (.getfield 9, 3) := by decide +kernel
theorem dX2_takeOnce_21 : decode cX2_takeOnce 21 = .ok (.iload_n 1, 1) := by decide +kernel
theorem dX2_takeOnce_22 : decode cX2_takeOnce 22 = .ok (.invokestatic 161, 3) := by decide +kernel
theorem dX2_takeOnce_25 : decode cX2_takeOnce 25 = .ok (.iload_n 3, 1) := by decide +kernel
theorem dX2_takeOnce_26 : decode cX2_takeOnce 26 = .ok (.if_icmp .ge 7, 3) := by decide +kernel
theorem dX2_takeOnce_29 : decode cX2_takeOnce 29 = .ok (.iconst 1, 1) := by decide +kernel
theorem dX2_takeOnce_30 : decode cX2_takeOnce 30 = .ok (.goto 4, 3) := by decide +kernel
theorem dX2_takeOnce_33 : decode cX2_takeOnce 33 = .ok (.iconst 0, 1) := by decide +kernel
theorem dX2_takeOnce_34 : decode cX2_takeOnce 34 = .ok (.iconst 5, 1) := by decide +kernel
theorem dX2_takeOnce_35 : decode cX2_takeOnce 35 = .ok (.invokevirtual 91, 3) := by decide +kernel
theorem dX2_takeOnce_38 : decode cX2_takeOnce 38 = .ok (.return_, 1) := by decide +kernel
theorem dX2_takeSpots_0 : decode cX2_takeSpots 0 = .ok (.aload_n 0, 1) := by decide +kernel
theorem dX2_takeSpots_1 : decode cX2_takeSpots 1 = .ok (.aload_n 1, 1) := by decide +kernel
theorem dX2_takeSpots_2 : decode cX2_takeSpots 2 = .ok (.iconst 0, 1) := by decide +kernel
theorem dX2_takeSpots_3 : decode cX2_takeSpots 3 = .ok (.iload_n 2, 1) := by decide +kernel
theorem dX2_takeSpots_4 : decode cX2_takeSpots 4 = .ok (.invokevirtual 166, 3) := by decide +kernel
theorem dX2_takeSpots_7 : decode cX2_takeSpots 7 = .ok (.istore_n 3, 1) := by decide +kernel
theorem dX2_takeSpots_8 : decode cX2_takeSpots 8 = .ok (.iconst 0, 1) := by decide +kernel
theorem dX2_takeSpots_9 : decode cX2_takeSpots 9 = .ok (.istore 4, 2) := by decide +kernel
theorem dX2_takeSpots_11 : decode cX2_takeSpots 11 = .ok (.iload 4, 2) := by decide +kernel
theorem dX2_takeSpots_13 : decode cX2_takeSpots 13 = .ok (.iload_n 2, 1) := by decide +kernel
theorem dX2_takeSpots_14 : decode cX2_takeSpots 14 = .ok (.if_icmp .ge 29, 3) := by decide +kernel
theorem dX2_takeSpots_17 : decode cX2_takeSpots 17 = .ok (.aload_n 0, 1) := by decide +kernel
theorem dX2_takeSpots_18 : decode cX2_takeSpots 18 = .ok (.getfield 9, 3) := by decide +kernel
theorem dX2_takeSpots_21 : decode cX2_takeSpots 21 = .ok (.invokevirtual 84, 3) := by decide +kernel
theorem dX2_takeSpots_24 : decode cX2_takeSpots 24 = .ok (.ifCond .eq 19, 3) := by decide +kernel
theorem dX2_takeSpots_27 : decode cX2_takeSpots 27 = .ok (.iload_n 3, 1) := by decide +kernel
theorem dX2_takeSpots_28 : decode cX2_takeSpots 28 = .ok (.aload_n 0, 1) := by decide +kernel
theorem dX2_takeSpots_29 : decode cX2_takeSpots 29 = .ok (.aload_n 1, 1) := by decide +kernel
theorem dX2_takeSpots_30 : decode cX2_takeSpots 30 = .ok (.iload_n 3, 1) := by decide +kernel
theorem dX2_takeSpots_31 : decode cX2_takeSpots 31 = .ok (.iload_n 2, 1) := by decide +kernel
theorem dX2_takeSpots_32 : decode cX2_takeSpots 32 = .ok (.invokevirtual 166, 3) := by decide +kernel
theorem dX2_takeSpots_35 : decode cX2_takeSpots 35 = .ok (.ior, 1) := by decide +kernel
theorem dX2_takeSpots_36 : decode cX2_takeSpots 36 = .ok (.istore_n 3, 1) := by decide +kernel
theorem dX2_takeSpots_37 : decode cX2_takeSpots 37 = .ok (.iinc 4 1, 3) := by decide +kernel
theorem dX2_takeSpots_40 : decode cX2_takeSpots 40 = .ok (.goto (-29), 3) := by decide +kernel
theorem dX2_takeSpots_43 : decode cX2_takeSpots 43 = .ok (.iload_n 3, 1) := by decide +kernel
theorem dX2_takeSpots_44 : decode cX2_takeSpots 44 = .ok (.ireturn, 1) := by decide +kernel
theorem dX2_takeSpot_0 : decode cX2_takeSpot 0 = .ok (.aload_n 1, 1) := by decide +kernel
theorem dX2_takeSpot_1 : decode cX2_takeSpot 1 = .ok (.aload_n 0, 1) := by decide +kernel
theorem dX2_takeSpot_2 : decode cX2_takeSpot 2 = .ok (.getfield 9, 3) := by decide +kernel
theorem dX2_takeSpot_5 : decode cX2_takeSpot 5 = .ok (.invokevirtual 170, 3) := by decide +kernel
theorem dX2_takeSpot_8 : decode cX2_takeSpot 8 = .ok (.istore 4, 2) := by decide +kernel
theorem dX2_takeSpot_10 : decode cX2_takeSpot 10 = .ok (.iload 4, 2) := by decide +kernel
theorem dX2_takeSpot_12 : decode cX2_takeSpot 12 = .ok (.iconst (-1), 1) := by decide +kernel
theorem dX2_takeSpot_13 : decode cX2_takeSpot 13 = .ok (.if_icmp .ne 5, 3) := by decide +kernel
theorem dX2_takeSpot_16 : decode cX2_takeSpot 16 = .ok (.iconst 0, 1) := by decide +kernel
theorem dX2_takeSpot_17 : decode cX2_takeSpot 17 = .ok (.ireturn, 1) := by decide +kernel
theorem dX2_takeSpot_18 : decode cX2_takeSpot 18 = .ok (.aload_n 0, 1) := by decide +kernel
theorem dX2_takeSpot_19 : decode cX2_takeSpot 19 = .ok (.iload_n 2, 1) := by decide +kernel
theorem dX2_takeSpot_20 : decode cX2_takeSpot 20 = .ok (.iconst 1, 1) := by decide +kernel
theorem dX2_takeSpot_21 : decode cX2_takeSpot 21 = .ok (.iload 4, 2) := by decide +kernel
theorem dX2_takeSpot_23 : decode cX2_takeSpot 23 = .ok (.ishl, 1) := by decide +kernel
theorem dX2_takeSpot_24 : decode cX2_takeSpot 24 = .ok (.iload_n 3, 1) := by decide +kernel
theorem dX2_takeSpot_25 : decode cX2_takeSpot 25 = .ok (.invokevirtual 157, 3) := by decide +kernel
theorem dX2_takeSpot_28 : decode cX2_takeSpot 28 = .ok (.iconst 1, 1) := by decide +kernel
theorem dX2_takeSpot_29 : decode cX2_takeSpot 29 = .ok (.iload 4, 2) := by decide +kernel
theorem dX2_takeSpot_31 : decode cX2_takeSpot 31 = .ok (.ishl, 1) := by decide +kernel
theorem dX2_takeSpot_32 : decode cX2_takeSpot 32 = .ok (.ireturn, 1) := by decide +kernel
theorem dX2_readCopy_0 : decode cX2_readCopy 0 = .ok (.aload_n 0, 1) := by decide +kernel
theorem dX2_readCopy_1 : decode cX2_readCopy 1 = .ok (.getfield 9, 3) := by decide +kernel
theorem dX2_readCopy_4 : decode cX2_readCopy 4 = .ok (.aload_n 1, 1) := by decide +kernel
theorem dX2_readCopy_5 : decode cX2_readCopy 5 = .ok (.getfield 174, 3) := by decide +kernel
theorem dX2_readCopy_8 : decode cX2_readCopy 8 = .ok (.getfield 178, 3) := by decide +kernel
theorem dX2_readCopy_11 : decode cX2_readCopy 11 = .ok (.bipush 8, 2) := by decide +kernel
theorem dX2_readCopy_13 : decode cX2_readCopy 13 = .ok (.if_icmp .ge 7, 3) := by decide +kernel
theorem dX2_readCopy_16 : decode cX2_readCopy 16 = .ok (.iconst 1, 1) := by decide +kernel
theorem dX2_readCopy_17 : decode cX2_readCopy 17 = .ok (.goto 4, 3) := by decide +kernel
theorem dX2_readCopy_20 : decode cX2_readCopy 20 = .ok (.iconst 0, 1) := by decide +kernel
theorem dX2_readCopy_21 : decode cX2_readCopy 21 = .ok (.iconst 5, 1) := by decide +kernel
theorem dX2_readCopy_22 : decode cX2_readCopy 22 = .ok (.invokevirtual 91, 3) := by decide +kernel
theorem dX2_readCopy_25 : decode cX2_readCopy 25 = .ok (.aload_n 0, 1) := by decide +kernel
theorem dX2_readCopy_26 : decode cX2_readCopy 26 = .ok (.getfield 9, 3) := by decide +kernel
theorem dX2_readCopy_29 : decode cX2_readCopy 29 = .ok (.getstatic 183, 3) := by decide +kernel
theorem dX2_readCopy_32 : decode cX2_readCopy 32 = .ok (.invokevirtual 124, 3) := by decide +kernel
theorem dX2_readCopy_35 : decode cX2_readCopy 35 = .ok (.aload_n 0, 1) := by decide +kernel
theorem dX2_readCopy_36 : decode cX2_readCopy 36 = .ok (.getfield 9, 3) := by decide +kernel
theorem dX2_readCopy_39 : decode cX2_readCopy 39 = .ok (.aload_n 1, 1) := by decide +kernel
theorem dX2_readCopy_40 : decode cX2_readCopy 40 = .ok (.getfield 174, 3) := by decide +kernel
theorem dX2_readCopy_43 : decode cX2_readCopy 43 = .ok (.getfield 178, 3) := by decide +kernel
theorem dX2_readCopy_46 : decode cX2_readCopy 46 = .ok (.invokevirtual 127, 3) := by decide +kernel
theorem dX2_readCopy_49 : decode cX2_readCopy 49 = .ok (.istore_n 2, 1) := by decide +kernel
theorem dX2_readCopy_50 : decode cX2_readCopy 50 = .ok (.aload_n 0, 1) := by decide +kernel
theorem dX2_readCopy_51 : decode cX2_readCopy 51 = .ok (.getfield 9, 3) := by decide +kernel
theorem dX2_readCopy_54 : decode cX2_readCopy 54 = .ok (.getstatic 186, 3) := by decide +kernel
theorem dX2_readCopy_57 : decode cX2_readCopy 57 = .ok (.invokevirtual 124, 3) := by decide +kernel
theorem dX2_readCopy_60 : decode cX2_readCopy 60 = .ok (.aload_n 0, 1) := by decide +kernel
theorem dX2_readCopy_61 : decode cX2_readCopy 61 = .ok (.aload_n 1, 1) := by decide +kernel
theorem dX2_readCopy_62 : decode cX2_readCopy 62 = .ok (.iconst 3, 1) := by decide +kernel
theorem dX2_readCopy_63 : decode cX2_readCopy 63 = .ok (.invokevirtual 189, 3) := by decide +kernel
theorem dX2_readCopy_66 : decode cX2_readCopy 66 = .ok (.istore_n 3, 1) := by decide +kernel
theorem dX2_readCopy_67 : decode cX2_readCopy 67 = .ok (.aload_n 0, 1) := by decide +kernel
theorem dX2_readCopy_68 : decode cX2_readCopy 68 = .ok (.getfield 9, 3) := by decide +kernel
theorem dX2_readCopy_71 : decode cX2_readCopy 71 = .ok (.getstatic 193, 3) := by decide +kernel
theorem dX2_readCopy_74 : decode cX2_readCopy 74 = .ok (.invokevirtual 124, 3) := by decide +kernel
theorem dX2_readCopy_77 : decode cX2_readCopy 77 = .ok (.aload_n 1, 1) := by decide +kernel
theorem dX2_readCopy_78 : decode cX2_readCopy 78 = .ok (.aload_n 0, 1) := by decide +kernel
theorem dX2_readCopy_79 : decode cX2_readCopy 79 = .ok (.getfield 9, 3) := by decide +kernel
theorem dX2_readCopy_82 : decode cX2_readCopy 82 = .ok (.invokevirtual 196, 3) := by decide +kernel
theorem dX2_readCopy_85 : decode cX2_readCopy 85 = .ok (.istore 4, 2) := by decide +kernel
theorem dX2_readCopy_87 : decode cX2_readCopy 87 = .ok (.aload_n 0, 1) := by decide +kernel
theorem dX2_readCopy_88 : decode cX2_readCopy 88 = .ok (.getfield 9, 3) := by decide +kernel
theorem dX2_readCopy_91 : decode cX2_readCopy 91 = .ok (.bipush 59, 2) := by decide +kernel
theorem dX2_readCopy_93 : decode cX2_readCopy 93 = .ok (.invokevirtual 103, 3) := by decide +kernel
theorem dX2_readCopy_96 : decode cX2_readCopy 96 = .ok (.aload_n 0, 1) := by decide +kernel
theorem dX2_readCopy_97 : decode cX2_readCopy 97 = .ok (.getfield 9, 3) := by decide +kernel
theorem dX2_readCopy_100 : decode cX2_readCopy 100 = .ok (.getfield 107, 3) := by decide +kernel
theorem dX2_readCopy_103 : decode cX2_readCopy 103 = .ok (.ifCond .ne 14, 3) := by decide +kernel
theorem dX2_readCopy_106 : decode cX2_readCopy 106 = .ok (.aload_n 1, 1) := by decide +kernel
theorem dX2_readCopy_107 : decode cX2_readCopy 107 = .ok (.getfield 174, 3) := by decide +kernel
theorem dX2_readCopy_110 : decode cX2_readCopy 110 = .ok (.iload_n 2, 1) := by decide +kernel
theorem dX2_readCopy_111 : decode cX2_readCopy 111 = .ok (.iload_n 3, 1) := by decide +kernel
theorem dX2_readCopy_112 : decode cX2_readCopy 112 = .ok (.iload 4, 2) := by decide +kernel
theorem dX2_readCopy_114 : decode cX2_readCopy 114 = .ok (.invokevirtual 199, 3) := by decide +kernel
theorem dX2_readCopy_117 : decode cX2_readCopy 117 = .ok (.return_, 1) := by decide +kernel
theorem dX2_readExpert_0 : decode cX2_readExpert 0 = .ok (.aload_n 0, 1) := by decide +kernel
theorem dX2_readExpert_1 : decode cX2_readExpert 1 = .ok (.getfield 9, 3) := by decide +kernel
theorem dX2_readExpert_4 : decode cX2_readExpert 4 = .ok (.aload_n 1, 1) := by decide +kernel
theorem dX2_readExpert_5 : decode cX2_readExpert 5 = .ok (.getfield 202, 3) := by decide +kernel
theorem dX2_readExpert_8 : decode cX2_readExpert 8 = .ok (.iconst 4, 1) := by decide +kernel
theorem dX2_readExpert_9 : decode cX2_readExpert 9 = .ok (.if_icmp .ge 7, 3) := by decide +kernel
theorem dX2_readExpert_12 : decode cX2_readExpert 12 = .ok (.iconst 1, 1) := by decide +kernel
theorem dX2_readExpert_13 : decode cX2_readExpert 13 = .ok (.goto 4, 3) := by decide +kernel
theorem dX2_readExpert_16 : decode cX2_readExpert 16 = .ok (.iconst 0, 1) := by decide +kernel
theorem dX2_readExpert_17 : decode cX2_readExpert 17 = .ok (.iconst 5, 1) := by decide +kernel
theorem dX2_readExpert_18 : decode cX2_readExpert 18 = .ok (.invokevirtual 91, 3) := by decide +kernel
theorem dX2_readExpert_21 : decode cX2_readExpert 21 = .ok (.aload_n 0, 1) := by decide +kernel
theorem dX2_readExpert_22 : decode cX2_readExpert 22 = .ok (.aload_n 1, 1) := by decide +kernel
theorem dX2_readExpert_23 : decode cX2_readExpert 23 = .ok (.invokevirtual 99, 3) := by decide +kernel
theorem dX2_readExpert_26 : decode cX2_readExpert 26 = .ok (.lstore_n 2, 1) := by decide +kernel
theorem dX2_readExpert_27 : decode cX2_readExpert 27 = .ok (.aload_n 0, 1) := by decide +kernel
theorem dX2_readExpert_28 : decode cX2_readExpert 28 = .ok (.getfield 9, 3) := by decide +kernel
theorem dX2_readExpert_31 : decode cX2_readExpert 31 = .ok (.getstatic 205, 3) := by decide +kernel
theorem dX2_readExpert_34 : decode cX2_readExpert 34 = .ok (.invokevirtual 124, 3) := by decide +kernel
theorem dX2_readExpert_37 : decode cX2_readExpert 37 = .ok (.aload_n 0, 1) := by decide +kernel
theorem dX2_readExpert_38 : decode cX2_readExpert 38 = .ok (.aload_n 1, 1) := by decide +kernel
theorem dX2_readExpert_39 : decode cX2_readExpert 39 = .ok (.iconst 4, 1) := by decide +kernel
theorem dX2_readExpert_40 : decode cX2_readExpert 40 = .ok (.invokevirtual 189, 3) := by decide +kernel
theorem dX2_readExpert_43 : decode cX2_readExpert 43 = .ok (.istore 4, 2) := by decide +kernel
theorem dX2_readExpert_45 : decode cX2_readExpert 45 = .ok (.aload_n 0, 1) := by decide +kernel
theorem dX2_readExpert_46 : decode cX2_readExpert 46 = .ok (.getfield 9, 3) := by decide +kernel
theorem dX2_readExpert_49 : decode cX2_readExpert 49 = .ok (.bipush 59, 2) := by decide +kernel
theorem dX2_readExpert_51 : decode cX2_readExpert 51 = .ok (.invokevirtual 103, 3) := by decide +kernel
theorem dX2_readExpert_54 : decode cX2_readExpert 54 = .ok (.aload_n 0, 1) := by decide +kernel
theorem dX2_readExpert_55 : decode cX2_readExpert 55 = .ok (.getfield 9, 3) := by decide +kernel
theorem dX2_readExpert_58 : decode cX2_readExpert 58 = .ok (.getfield 107, 3) := by decide +kernel
theorem dX2_readExpert_61 : decode cX2_readExpert 61 = .ok (.ifCond .ne 10, 3) := by decide +kernel
theorem dX2_readExpert_64 : decode cX2_readExpert 64 = .ok (.aload_n 1, 1) := by decide +kernel
theorem dX2_readExpert_65 : decode cX2_readExpert 65 = .ok (.lload_n 2, 1) := by decide +kernel
theorem dX2_readExpert_66 : decode cX2_readExpert 66 = .ok (.iload 4, 2) := by decide +kernel
theorem dX2_readExpert_68 : decode cX2_readExpert 68 = .ok (.invokevirtual 208, 3) := by decide +kernel
theorem dX2_readExpert_71 : decode cX2_readExpert 71 = .ok (.return_, 1) := by decide +kernel
theorem dX2_readWorth_0 : decode cX2_readWorth 0 = .ok (.aload_n 0, 1) := by decide +kernel
theorem dX2_readWorth_1 : decode cX2_readWorth 1 = .ok (.getfield 9, 3) := by decide +kernel
theorem dX2_readWorth_4 : decode cX2_readWorth 4 = .ok (.aload_n 1, 1) := by decide +kernel
theorem dX2_readWorth_5 : decode cX2_readWorth 5 = .ok (.getfield 212, 3) := by decide +kernel
theorem dX2_readWorth_8 : decode cX2_readWorth 8 = .ok (.ifnonnull 7, 3) := by decide +kernel
theorem dX2_readWorth_11 : decode cX2_readWorth 11 = .ok (.iconst 1, 1) := by decide +kernel
theorem dX2_readWorth_12 : decode cX2_readWorth 12 = .ok (.goto 4, 3) := by decide +kernel
theorem dX2_readWorth_15 : decode cX2_readWorth 15 = .ok (.iconst 0, 1) := by decide +kernel
theorem dX2_readWorth_16 : decode cX2_readWorth 16 = .ok (.iconst 3, 1) := by decide +kernel
theorem dX2_readWorth_17 : decode cX2_readWorth 17 = .ok (.invokevirtual 91, 3) := by decide +kernel
theorem dX2_readWorth_20 : decode cX2_readWorth 20 = .ok (.aload_n 1, 1) := by decide +kernel
theorem dX2_readWorth_21 : decode cX2_readWorth 21 = .ok (.aload_n 0, 1) := by decide +kernel
theorem dX2_readWorth_22 : decode cX2_readWorth 22 = .ok (.getfield 20, 3) := by decide +kernel
theorem dX2_readWorth_25 : decode cX2_readWorth 25 = .ok (.getstatic 216, 3) := by decide +kernel
theorem dX2_readWorth_28 : decode cX2_readWorth 28 = .ok (.invokevirtual 219, 3) := by decide +kernel
theorem dX2_readWorth_31 : decode cX2_readWorth 31 = .ok (.putfield 212, 3) := by decide +kernel
theorem dX2_readWorth_34 : decode cX2_readWorth 34 = .ok (.aload_n 0, 1) := by decide +kernel
theorem dX2_readWorth_35 : decode cX2_readWorth 35 = .ok (.getfield 9, 3) := by decide +kernel
theorem dX2_readWorth_38 : decode cX2_readWorth 38 = .ok (.bipush 59, 2) := by decide +kernel
theorem dX2_readWorth_40 : decode cX2_readWorth 40 = .ok (.invokevirtual 103, 3) := by decide +kernel
theorem dX2_readWorth_43 : decode cX2_readWorth 43 = .ok (.return_, 1) := by decide +kernel
theorem dX2_readHard_0 : decode cX2_readHard 0 = .ok (.aload_n 0, 1) := by decide +kernel
theorem dX2_readHard_1 : decode cX2_readHard 1 = .ok (.getfield 9, 3) := by decide +kernel
theorem dX2_readHard_4 : decode cX2_readHard 4 = .ok (.aload_n 1, 1) := by decide +kernel
theorem dX2_readHard_5 : decode cX2_readHard 5 = .ok (.getfield 223, 3) := by decide +kernel
theorem dX2_readHard_8 : decode cX2_readHard 8 = .ok (.ifnonnull 7, 3) := by decide +kernel
theorem dX2_readHard_11 : decode cX2_readHard 11 = .ok (.iconst 1, 1) := by decide +kernel
theorem dX2_readHard_12 : decode cX2_readHard 12 = .ok (.goto 4, 3) := by decide +kernel
theorem dX2_readHard_15 : decode cX2_readHard 15 = .ok (.iconst 0, 1) := by decide +kernel
theorem dX2_readHard_16 : decode cX2_readHard 16 = .ok (.iconst 3, 1) := by decide +kernel
theorem dX2_readHard_17 : decode cX2_readHard 17 = .ok (.invokevirtual 91, 3) := by decide +kernel
theorem dX2_readHard_20 : decode cX2_readHard 20 = .ok (.aload_n 1, 1) := by decide +kernel
theorem dX2_readHard_21 : decode cX2_readHard 21 = .ok (.aload_n 0, 1) := by decide +kernel
theorem dX2_readHard_22 : decode cX2_readHard 22 = .ok (.getfield 20, 3) := by decide +kernel
theorem dX2_readHard_25 : decode cX2_readHard 25 = .ok (.getstatic 226, 3) := by decide +kernel
theorem dX2_readHard_28 : decode cX2_readHard 28 = .ok (.invokevirtual 219, 3) := by decide +kernel
theorem dX2_readHard_31 : decode cX2_readHard 31 = .ok (.putfield 223, 3) := by decide +kernel
theorem dX2_readHard_34 : decode cX2_readHard 34 = .ok (.aload_n 0, 1) := by decide +kernel
theorem dX2_readHard_35 : decode cX2_readHard 35 = .ok (.getfield 9, 3) := by decide +kernel
theorem dX2_readHard_38 : decode cX2_readHard 38 = .ok (.bipush 59, 2) := by decide +kernel
theorem dX2_readHard_40 : decode cX2_readHard 40 = .ok (.invokevirtual 103, 3) := by decide +kernel
theorem dX2_readHard_43 : decode cX2_readHard 43 = .ok (.return_, 1) := by decide +kernel
theorem dX3_init_0 : decode cX3_init 0 = .ok (.aload_n 0, 1) := by decide +kernel
theorem dX3_init_1 : decode cX3_init 1 = .ok (.invokespecial 3, 3) := by decide +kernel
theorem dX3_init_4 : decode cX3_init 4 = .ok (.aload_n 0, 1) := by decide +kernel
theorem dX3_init_5 : decode cX3_init 5 = .ok (.bipush 8, 2) := by decide +kernel
theorem dX3_init_7 : decode cX3_init 7 = .ok (.newarray .int, 2) := by decide +kernel
theorem dX3_init_9 : decode cX3_init 9 = .ok (.putfield 9, 3) := by decide +kernel
theorem dX3_init_12 : decode cX3_init 12 = .ok (.aload_n 0, 1) := by decide +kernel
theorem dX3_init_13 : decode cX3_init 13 = .ok (.bipush 8, 2) := by decide +kernel
theorem dX3_init_15 : decode cX3_init 15 = .ok (.newarray .int, 2) := by decide +kernel
theorem dX3_init_17 : decode cX3_init 17 = .ok (.putfield 15, 3) := by decide +kernel
theorem dX3_init_20 : decode cX3_init 20 = .ok (.aload_n 0, 1) := by decide +kernel
theorem dX3_init_21 : decode cX3_init 21 = .ok (.bipush 8, 2) := by decide +kernel
theorem dX3_init_23 : decode cX3_init 23 = .ok (.newarray .int, 2) := by decide +kernel
theorem dX3_init_25 : decode cX3_init 25 = .ok (.putfield 18, 3) := by decide +kernel
theorem dX3_init_28 : decode cX3_init 28 = .ok (.aload_n 0, 1) := by decide +kernel
theorem dX3_init_29 : decode cX3_init 29 = .ok (.bipush 8, 2) := by decide +kernel
theorem dX3_init_31 : decode cX3_init 31 = .ok (.newarray .int, 2) := by decide +kernel
theorem dX3_init_33 : decode cX3_init 33 = .ok (.putfield 21, 3) := by decide +kernel
theorem dX3_init_36 : decode cX3_init 36 = .ok (.aload_n 0, 1) := by decide +kernel
theorem dX3_init_37 : decode cX3_init 37 = .ok (.bipush 8, 2) := by decide +kernel
theorem dX3_init_39 : decode cX3_init 39 = .ok (.newarray .int, 2) := by decide +kernel
theorem dX3_init_41 : decode cX3_init 41 = .ok (.putfield 24, 3) := by decide +kernel
theorem dX3_init_44 : decode cX3_init 44 = .ok (.aload_n 0, 1) := by decide +kernel
theorem dX3_init_45 : decode cX3_init 45 = .ok (.iconst 5, 1) := by decide +kernel
theorem dX3_init_46 : decode cX3_init 46 = .ok (.newarray .int, 2) := by decide +kernel
theorem dX3_init_48 : decode cX3_init 48 = .ok (.putfield 27, 3) := by decide +kernel
theorem dX3_init_51 : decode cX3_init 51 = .ok (.aload_n 0, 1) := by decide +kernel
theorem dX3_init_52 : decode cX3_init 52 = .ok (.iconst 0, 1) := by decide +kernel
theorem dX3_init_53 : decode cX3_init 53 = .ok (.putfield 30, 3) := by decide +kernel
theorem dX3_init_56 : decode cX3_init 56 = .ok (.aload_n 0, 1) := by decide +kernel
theorem dX3_init_57 : decode cX3_init 57 = .ok (.iconst 1, 1) := by decide +kernel
theorem dX3_init_58 : decode cX3_init 58 = .ok (.putfield 34, 3) := by decide +kernel
theorem dX3_init_61 : decode cX3_init 61 = .ok (.aload_n 0, 1) := by decide +kernel
theorem dX3_init_62 : decode cX3_init 62 = .ok (.iconst 0, 1) := by decide +kernel
theorem dX3_init_63 : decode cX3_init 63 = .ok (.putfield 37, 3) := by decide +kernel
theorem dX3_init_66 : decode cX3_init 66 = .ok (.aload_n 0, 1) := by decide +kernel
theorem dX3_init_67 : decode cX3_init 67 = .ok (.iconst 0, 1) := by decide +kernel
theorem dX3_init_68 : decode cX3_init 68 = .ok (.putfield 40, 3) := by decide +kernel
theorem dX3_init_71 : decode cX3_init 71 = .ok (.aload_n 0, 1) := by decide +kernel
theorem dX3_init_72 : decode cX3_init 72 = .ok (.iconst 0, 1) := by decide +kernel
theorem dX3_init_73 : decode cX3_init 73 = .ok (.putfield 43, 3) := by decide +kernel
theorem dX3_init_76 : decode cX3_init 76 = .ok (.aload_n 0, 1) := by decide +kernel
theorem dX3_init_77 : decode cX3_init 77 = .ok (.iconst 0, 1) := by decide +kernel
theorem dX3_init_78 : decode cX3_init 78 = .ok (.putfield 46, 3) := by decide +kernel
theorem dX3_init_81 : decode cX3_init 81 = .ok (.aload_n 0, 1) := by decide +kernel
theorem dX3_init_82 : decode cX3_init 82 = .ok (.iconst 0, 1) := by decide +kernel
theorem dX3_init_83 : decode cX3_init 83 = .ok (.putfield 49, 3) := by decide +kernel
theorem dX3_init_86 : decode cX3_init 86 = .ok (.aload_n 0, 1) := by decide +kernel
theorem dX3_init_87 : decode cX3_init 87 = .ok (.invokevirtual 52, 3) := by decide +kernel
theorem dX3_init_90 : decode cX3_init 90 = .ok (.return_, 1) := by decide +kernel
theorem dX3_clear_0 : decode cX3_clear 0 = .ok (.aload_n 0, 1) := by decide +kernel
theorem dX3_clear_1 : decode cX3_clear 1 = .ok (.getfield 9, 3) := by decide +kernel
theorem dX3_clear_4 : decode cX3_clear 4 = .ok (.iconst 0, 1) := by decide +kernel
theorem dX3_clear_5 : decode cX3_clear 5 = .ok (.iconst 0, 1) := by decide +kernel
theorem dX3_clear_6 : decode cX3_clear 6 = .ok (.iastore, 1) := by decide +kernel
theorem dX3_clear_7 : decode cX3_clear 7 = .ok (.aload_n 0, 1) := by decide +kernel
theorem dX3_clear_8 : decode cX3_clear 8 = .ok (.getfield 15, 3) := by decide +kernel
theorem dX3_clear_11 : decode cX3_clear 11 = .ok (.iconst 0, 1) := by decide +kernel
theorem dX3_clear_12 : decode cX3_clear 12 = .ok (.iconst 0, 1) := by decide +kernel
theorem dX3_clear_13 : decode cX3_clear 13 = .ok (.iastore, 1) := by decide +kernel
theorem dX3_clear_14 : decode cX3_clear 14 = .ok (.aload_n 0, 1) := by decide +kernel
theorem dX3_clear_15 : decode cX3_clear 15 = .ok (.getfield 21, 3) := by decide +kernel
theorem dX3_clear_18 : decode cX3_clear 18 = .ok (.iconst 0, 1) := by decide +kernel
theorem dX3_clear_19 : decode cX3_clear 19 = .ok (.iconst 0, 1) := by decide +kernel
theorem dX3_clear_20 : decode cX3_clear 20 = .ok (.iastore, 1) := by decide +kernel
theorem dX3_clear_21 : decode cX3_clear 21 = .ok (.aload_n 0, 1) := by decide +kernel
theorem dX3_clear_22 : decode cX3_clear 22 = .ok (.getfield 18, 3) := by decide +kernel
theorem dX3_clear_25 : decode cX3_clear 25 = .ok (.iconst 0, 1) := by decide +kernel
theorem dX3_clear_26 : decode cX3_clear 26 = .ok (.iconst (-1), 1) := by decide +kernel
theorem dX3_clear_27 : decode cX3_clear 27 = .ok (.iastore, 1) := by decide +kernel
theorem dX3_clear_28 : decode cX3_clear 28 = .ok (.aload_n 0, 1) := by decide +kernel
theorem dX3_clear_29 : decode cX3_clear 29 = .ok (.getfield 24, 3) := by decide +kernel
theorem dX3_clear_32 : decode cX3_clear 32 = .ok (.iconst 0, 1) := by decide +kernel
theorem dX3_clear_33 : decode cX3_clear 33 = .ok (.iconst 5, 1) := by decide +kernel
theorem dX3_clear_34 : decode cX3_clear 34 = .ok (.iastore, 1) := by decide +kernel
theorem dX3_clear_35 : decode cX3_clear 35 = .ok (.aload_n 0, 1) := by decide +kernel
theorem dX3_clear_36 : decode cX3_clear 36 = .ok (.getfield 27, 3) := by decide +kernel
theorem dX3_clear_39 : decode cX3_clear 39 = .ok (.iconst 0, 1) := by decide +kernel
theorem dX3_clear_40 : decode cX3_clear 40 = .ok (.invokestatic 55, 3) := by decide +kernel
theorem dX3_clear_43 : decode cX3_clear 43 = .ok (.aload_n 0, 1) := by decide +kernel
theorem dX3_clear_44 : decode cX3_clear 44 = .ok (.iconst 0, 1) := by decide +kernel
theorem dX3_clear_45 : decode cX3_clear 45 = .ok (.putfield 30, 3) := by decide +kernel
theorem dX3_clear_48 : decode cX3_clear 48 = .ok (.aload_n 0, 1) := by decide +kernel
theorem dX3_clear_49 : decode cX3_clear 49 = .ok (.iconst 1, 1) := by decide +kernel
theorem dX3_clear_50 : decode cX3_clear 50 = .ok (.putfield 34, 3) := by decide +kernel
theorem dX3_clear_53 : decode cX3_clear 53 = .ok (.aload_n 0, 1) := by decide +kernel
theorem dX3_clear_54 : decode cX3_clear 54 = .ok (.iconst 0, 1) := by decide +kernel
theorem dX3_clear_55 : decode cX3_clear 55 = .ok (.putfield 37, 3) := by decide +kernel
theorem dX3_clear_58 : decode cX3_clear 58 = .ok (.aload_n 0, 1) := by decide +kernel
theorem dX3_clear_59 : decode cX3_clear 59 = .ok (.iconst 0, 1) := by decide +kernel
theorem dX3_clear_60 : decode cX3_clear 60 = .ok (.putfield 40, 3) := by decide +kernel
theorem dX3_clear_63 : decode cX3_clear 63 = .ok (.aload_n 0, 1) := by decide +kernel
theorem dX3_clear_64 : decode cX3_clear 64 = .ok (.iconst 0, 1) := by decide +kernel
theorem dX3_clear_65 : decode cX3_clear 65 = .ok (.putfield 43, 3) := by decide +kernel
theorem dX3_clear_68 : decode cX3_clear 68 = .ok (.aload_n 0, 1) := by decide +kernel
theorem dX3_clear_69 : decode cX3_clear 69 = .ok (.iconst 0, 1) := by decide +kernel
theorem dX3_clear_70 : decode cX3_clear 70 = .ok (.putfield 46, 3) := by decide +kernel
theorem dX3_clear_73 : decode cX3_clear 73 = .ok (.aload_n 0, 1) := by decide +kernel
theorem dX3_clear_74 : decode cX3_clear 74 = .ok (.iconst 0, 1) := by decide +kernel
theorem dX3_clear_75 : decode cX3_clear 75 = .ok (.putfield 49, 3) := by decide +kernel
theorem dX3_clear_78 : decode cX3_clear 78 = .ok (.return_, 1) := by decide +kernel
theorem dX3_takeAll_0 : decode cX3_takeAll 0 = .ok (.aload_n 0, 1) := by decide +kernel
theorem dX3_takeAll_1 : decode cX3_takeAll 1 = .ok (.aload_n 1, 1) := by decide +kernel
theorem dX3_takeAll_2 : decode cX3_takeAll 2 = .ok (.invokevirtual 61, 3) := by decide +kernel
theorem dX3_takeAll_5 : decode cX3_takeAll 5 = .ok (.aload_n 0, 1) := by decide +kernel
theorem dX3_takeAll_6 : decode cX3_takeAll 6 = .ok (.aload_n 1, 1) := by decide +kernel
theorem dX3_takeAll_7 : decode cX3_takeAll 7 = .ok (.getfield 43, 3) := by decide +kernel
theorem dX3_takeAll_10 : decode cX3_takeAll 10 = .ok (.putfield 43, 3) := by decide +kernel
theorem dX3_takeAll_13 : decode cX3_takeAll 13 = .ok (.aload_n 0, 1) := by decide +kernel
theorem dX3_takeAll_14 : decode cX3_takeAll 14 = .ok (.aload_n 1, 1) := by decide +kernel
theorem dX3_takeAll_15 : decode cX3_takeAll 15 = .ok (.getfield 46, 3) := by decide +kernel
theorem dX3_takeAll_18 : decode cX3_takeAll 18 = .ok (.putfield 46, 3) := by decide +kernel
theorem dX3_takeAll_21 : decode cX3_takeAll 21 = .ok (.aload_n 0, 1) := by decide +kernel
theorem dX3_takeAll_22 : decode cX3_takeAll 22 = .ok (.aload_n 1, 1) := by decide +kernel
theorem dX3_takeAll_23 : decode cX3_takeAll 23 = .ok (.getfield 49, 3) := by decide +kernel
theorem dX3_takeAll_26 : decode cX3_takeAll 26 = .ok (.putfield 49, 3) := by decide +kernel
theorem dX3_takeAll_29 : decode cX3_takeAll 29 = .ok (.return_, 1) := by decide +kernel
theorem dX3_takeNights_0 : decode cX3_takeNights 0 = .ok (.aload_n 1, 1) := by decide +kernel
theorem dX3_takeNights_1 : decode cX3_takeNights 1 = .ok (.getfield 9, 3) := by decide +kernel
theorem dX3_takeNights_4 : decode cX3_takeNights 4 = .ok (.iconst 0, 1) := by decide +kernel
theorem dX3_takeNights_5 : decode cX3_takeNights 5 = .ok (.aload_n 0, 1) := by decide +kernel
theorem dX3_takeNights_6 : decode cX3_takeNights 6 = .ok (.getfield 9, 3) := by decide +kernel
theorem dX3_takeNights_9 : decode cX3_takeNights 9 = .ok (.iconst 0, 1) := by decide +kernel
theorem dX3_takeNights_10 : decode cX3_takeNights 10 = .ok (.bipush 8, 2) := by decide +kernel
theorem dX3_takeNights_12 : decode cX3_takeNights 12 = .ok (.invokestatic 65, 3) := by decide +kernel
theorem dX3_takeNights_15 : decode cX3_takeNights 15 = .ok (.aload_n 1, 1) := by decide +kernel
theorem dX3_takeNights_16 : decode cX3_takeNights 16 = .ok (.getfield 15, 3) := by decide +kernel
theorem dX3_takeNights_19 : decode cX3_takeNights 19 = .ok (.iconst 0, 1) := by decide +kernel
theorem dX3_takeNights_20 : decode cX3_takeNights 20 = .ok (.aload_n 0, 1) := by decide +kernel
theorem dX3_takeNights_21 : decode cX3_takeNights 21 = .ok (.getfield 15, 3) := by decide +kernel
theorem dX3_takeNights_24 : decode cX3_takeNights 24 = .ok (.iconst 0, 1) := by decide +kernel
theorem dX3_takeNights_25 : decode cX3_takeNights 25 = .ok (.bipush 8, 2) := by decide +kernel
theorem dX3_takeNights_27 : decode cX3_takeNights 27 = .ok (.invokestatic 65, 3) := by decide +kernel
theorem dX3_takeNights_30 : decode cX3_takeNights 30 = .ok (.aload_n 1, 1) := by decide +kernel
theorem dX3_takeNights_31 : decode cX3_takeNights 31 = .ok (.getfield 18, 3) := by decide +kernel
theorem dX3_takeNights_34 : decode cX3_takeNights 34 = .ok (.iconst 0, 1) := by decide +kernel
theorem dX3_takeNights_35 : decode cX3_takeNights 35 = .ok (.aload_n 0, 1) := by decide +kernel
theorem dX3_takeNights_36 : decode cX3_takeNights 36 = .ok (.getfield 18, 3) := by decide +kernel
theorem dX3_takeNights_39 : decode cX3_takeNights 39 = .ok (.iconst 0, 1) := by decide +kernel
theorem dX3_takeNights_40 : decode cX3_takeNights 40 = .ok (.bipush 8, 2) := by decide +kernel
theorem dX3_takeNights_42 : decode cX3_takeNights 42 = .ok (.invokestatic 65, 3) := by decide +kernel
theorem dX3_takeNights_45 : decode cX3_takeNights 45 = .ok (.aload_n 1, 1) := by decide +kernel
theorem dX3_takeNights_46 : decode cX3_takeNights 46 = .ok (.getfield 21, 3) := by decide +kernel
theorem dX3_takeNights_49 : decode cX3_takeNights 49 = .ok (.iconst 0, 1) := by decide +kernel
theorem dX3_takeNights_50 : decode cX3_takeNights 50 = .ok (.aload_n 0, 1) := by decide +kernel
theorem dX3_takeNights_51 : decode cX3_takeNights 51 = .ok (.getfield 21, 3) := by decide +kernel
theorem dX3_takeNights_54 : decode cX3_takeNights 54 = .ok (.iconst 0, 1) := by decide +kernel
theorem dX3_takeNights_55 : decode cX3_takeNights 55 = .ok (.bipush 8, 2) := by decide +kernel
theorem dX3_takeNights_57 : decode cX3_takeNights 57 = .ok (.invokestatic 65, 3) := by decide +kernel
theorem dX3_takeNights_60 : decode cX3_takeNights 60 = .ok (.aload_n 1, 1) := by decide +kernel
theorem dX3_takeNights_61 : decode cX3_takeNights 61 = .ok (.getfield 24, 3) := by decide +kernel
theorem dX3_takeNights_64 : decode cX3_takeNights 64 = .ok (.iconst 0, 1) := by decide +kernel
theorem dX3_takeNights_65 : decode cX3_takeNights 65 = .ok (.aload_n 0, 1) := by decide +kernel
theorem dX3_takeNights_66 : decode cX3_takeNights 66 = .ok (.getfield 24, 3) := by decide +kernel
theorem dX3_takeNights_69 : decode cX3_takeNights 69 = .ok (.iconst 0, 1) := by decide +kernel
theorem dX3_takeNights_70 : decode cX3_takeNights 70 = .ok (.bipush 8, 2) := by decide +kernel
theorem dX3_takeNights_72 : decode cX3_takeNights 72 = .ok (.invokestatic 65, 3) := by decide +kernel
theorem dX3_takeNights_75 : decode cX3_takeNights 75 = .ok (.aload_n 1, 1) := by decide +kernel
theorem dX3_takeNights_76 : decode cX3_takeNights 76 = .ok (.getfield 27, 3) := by decide +kernel
theorem dX3_takeNights_79 : decode cX3_takeNights 79 = .ok (.iconst 0, 1) := by decide +kernel
theorem dX3_takeNights_80 : decode cX3_takeNights 80 = .ok (.aload_n 0, 1) := by decide +kernel
theorem dX3_takeNights_81 : decode cX3_takeNights 81 = .ok (.getfield 27, 3) := by decide +kernel
theorem dX3_takeNights_84 : decode cX3_takeNights 84 = .ok (.iconst 0, 1) := by decide +kernel
theorem dX3_takeNights_85 : decode cX3_takeNights 85 = .ok (.iconst 5, 1) := by decide +kernel
theorem dX3_takeNights_86 : decode cX3_takeNights 86 = .ok (.invokestatic 65, 3) := by decide +kernel
theorem dX3_takeNights_89 : decode cX3_takeNights 89 = .ok (.aload_n 0, 1) := by decide +kernel
theorem dX3_takeNights_90 : decode cX3_takeNights 90 = .ok (.aload_n 1, 1) := by decide +kernel
theorem dX3_takeNights_91 : decode cX3_takeNights 91 = .ok (.getfield 30, 3) := by decide +kernel
theorem dX3_takeNights_94 : decode cX3_takeNights 94 = .ok (.putfield 30, 3) := by decide +kernel
theorem dX3_takeNights_97 : decode cX3_takeNights 97 = .ok (.aload_n 0, 1) := by decide +kernel
theorem dX3_takeNights_98 : decode cX3_takeNights 98 = .ok (.aload_n 1, 1) := by decide +kernel
theorem dX3_takeNights_99 : decode cX3_takeNights 99 = .ok (.getfield 34, 3) := by decide +kernel
theorem dX3_takeNights_102 : decode cX3_takeNights 102 = .ok (.putfield 34, 3) := by decide +kernel
theorem dX3_takeNights_105 : decode cX3_takeNights 105 = .ok (.aload_n 0, 1) := by decide +kernel
theorem dX3_takeNights_106 : decode cX3_takeNights 106 = .ok (.aload_n 1, 1) := by decide +kernel
theorem dX3_takeNights_107 : decode cX3_takeNights 107 = .ok (.getfield 37, 3) := by decide +kernel
theorem dX3_takeNights_110 : decode cX3_takeNights 110 = .ok (.putfield 37, 3) := by decide +kernel
theorem dX3_takeNights_113 : decode cX3_takeNights 113 = .ok (.aload_n 0, 1) := by decide +kernel
theorem dX3_takeNights_114 : decode cX3_takeNights 114 = .ok (.aload_n 1, 1) := by decide +kernel
theorem dX3_takeNights_115 : decode cX3_takeNights 115 = .ok (.getfield 40, 3) := by decide +kernel
theorem dX3_takeNights_118 : decode cX3_takeNights 118 = .ok (.putfield 40, 3) := by decide +kernel
theorem dX3_takeNights_121 : decode cX3_takeNights 121 = .ok (.return_, 1) := by decide +kernel
theorem dX3_addPiece_0 : decode cX3_addPiece 0 = .ok (.aload_n 0, 1) := by decide +kernel
theorem dX3_addPiece_1 : decode cX3_addPiece 1 = .ok (.getfield 34, 3) := by decide +kernel
theorem dX3_addPiece_4 : decode cX3_addPiece 4 = .ok (.bipush 8, 2) := by decide +kernel
theorem dX3_addPiece_6 : decode cX3_addPiece 6 = .ok (.if_icmp .ge 78, 3) := by decide +kernel
theorem dX3_addPiece_9 : decode cX3_addPiece 9 = .ok (.aload_n 0, 1) := by decide +kernel
theorem dX3_addPiece_10 : decode cX3_addPiece 10 = .ok (.iload_n 1, 1) := by decide +kernel
theorem dX3_addPiece_11 : decode cX3_addPiece 11 = .ok (.invokevirtual 71, 3) := by decide +kernel
theorem dX3_addPiece_14 : decode cX3_addPiece 14 = .ok (.ifCond .eq 70, 3) := by decide +kernel
theorem dX3_addPiece_17 : decode cX3_addPiece 17 = .ok (.aload_n 0, 1) := by decide +kernel
theorem dX3_addPiece_18 : decode cX3_addPiece 18 = .ok (.getfield 9, 3) := by decide +kernel
theorem dX3_addPiece_21 : decode cX3_addPiece 21 = .ok (.aload_n 0, 1) := by decide +kernel
theorem dX3_addPiece_22 : decode cX3_addPiece 22 = .ok (.getfield 34, 3) := by decide +kernel
theorem dX3_addPiece_25 : decode cX3_addPiece 25 = .ok (.aload_n 0, 1) := by decide +kernel
theorem dX3_addPiece_26 : decode cX3_addPiece 26 = .ok (.getfield 9, 3) := by decide +kernel
theorem dX3_addPiece_29 : decode cX3_addPiece 29 = .ok (.iload_n 1, 1) := by decide +kernel
theorem dX3_addPiece_30 : decode cX3_addPiece 30 = .ok (.iaload, 1) := by decide +kernel
theorem dX3_addPiece_31 : decode cX3_addPiece 31 = .ok (.iload_n 2, 1) := by decide +kernel
theorem dX3_addPiece_32 : decode cX3_addPiece 32 = .ok (.ixor, 1) := by decide +kernel
theorem dX3_addPiece_33 : decode cX3_addPiece 33 = .ok (.iastore, 1) := by decide +kernel
theorem dX3_addPiece_34 : decode cX3_addPiece 34 = .ok (.aload_n 0, 1) := by decide +kernel
theorem dX3_addPiece_35 : decode cX3_addPiece 35 = .ok (.getfield 15, 3) := by decide +kernel
theorem dX3_addPiece_38 : decode cX3_addPiece 38 = .ok (.aload_n 0, 1) := by decide +kernel
theorem dX3_addPiece_39 : decode cX3_addPiece 39 = .ok (.getfield 34, 3) := by decide +kernel
theorem dX3_addPiece_42 : decode cX3_addPiece 42 = .ok (.iload_n 2, 1) := by decide +kernel
theorem dX3_addPiece_43 : decode cX3_addPiece 43 = .ok (.iastore, 1) := by decide +kernel
theorem dX3_addPiece_44 : decode cX3_addPiece 44 = .ok (.aload_n 0, 1) := by decide +kernel
theorem dX3_addPiece_45 : decode cX3_addPiece 45 = .ok (.getfield 18, 3) := by decide +kernel
theorem dX3_addPiece_48 : decode cX3_addPiece 48 = .ok (.aload_n 0, 1) := by decide +kernel
theorem dX3_addPiece_49 : decode cX3_addPiece 49 = .ok (.getfield 34, 3) := by decide +kernel
theorem dX3_addPiece_52 : decode cX3_addPiece 52 = .ok (.iload_n 1, 1) := by decide +kernel
theorem dX3_addPiece_53 : decode cX3_addPiece 53 = .ok (.iastore, 1) := by decide +kernel
theorem dX3_addPiece_54 : decode cX3_addPiece 54 = .ok (.aload_n 0, 1) := by decide +kernel
theorem dX3_addPiece_55 : decode cX3_addPiece 55 = .ok (.getfield 21, 3) := by decide +kernel
theorem dX3_addPiece_58 : decode cX3_addPiece 58 = .ok (.aload_n 0, 1) := by decide +kernel
theorem dX3_addPiece_59 : decode cX3_addPiece 59 = .ok (.getfield 34, 3) := by decide +kernel
theorem dX3_addPiece_62 : decode cX3_addPiece 62 = .ok (.iconst 0, 1) := by decide +kernel
theorem dX3_addPiece_63 : decode cX3_addPiece 63 = .ok (.iastore, 1) := by decide +kernel
theorem dX3_addPiece_64 : decode cX3_addPiece 64 = .ok (.aload_n 0, 1) := by decide +kernel
theorem dX3_addPiece_65 : decode cX3_addPiece 65 = .ok (.getfield 24, 3) := by decide +kernel
theorem dX3_addPiece_68 : decode cX3_addPiece 68 = .ok (.aload_n 0, 1) := by decide +kernel
theorem dX3_addPiece_69 : decode cX3_addPiece 69 = .ok (.getfield 34, 3) := by decide +kernel
theorem dX3_addPiece_72 : decode cX3_addPiece 72 = .ok (.iload_n 3, 1) := by decide +kernel
theorem dX3_addPiece_73 : decode cX3_addPiece 73 = .ok (.iastore, 1) := by decide +kernel
theorem dX3_addPiece_74 : decode cX3_addPiece 74 = .ok (.aload_n 0, 1) := by decide +kernel
theorem dX3_addPiece_75 : decode cX3_addPiece 75 = .ok (.dup, 1) := by decide +kernel
theorem dX3_addPiece_76 : decode cX3_addPiece 76 = .ok (.getfield 34, 3) := by decide +kernel
theorem dX3_addPiece_79 : decode cX3_addPiece 79 = .ok (.iconst 1, 1) := by decide +kernel
theorem dX3_addPiece_80 : decode cX3_addPiece 80 = .ok (.iadd, 1) := by decide +kernel
theorem dX3_addPiece_81 : decode cX3_addPiece 81 = .ok (.putfield 34, 3) := by decide +kernel
theorem dX3_addPiece_84 : decode cX3_addPiece 84 = .ok (.return_, 1) := by decide +kernel
theorem dX3_isThere_0 : decode cX3_isThere 0 = .ok (.iload_n 1, 1) := by decide +kernel
theorem dX3_isThere_1 : decode cX3_isThere 1 = .ok (.ifCond .lt 15, 3) := by decide +kernel
theorem dX3_isThere_4 : decode cX3_isThere 4 = .ok (.iload_n 1, 1) := by decide +kernel
theorem dX3_isThere_5 : decode cX3_isThere 5 = .ok (.aload_n 0, 1) := by decide +kernel
theorem dX3_isThere_6 : decode cX3_isThere 6 = .ok (.getfield 34, 3) := by decide +kernel
theorem dX3_isThere_9 : decode cX3_isThere 9 = .ok (.if_icmp .ge 7, 3) := by decide +kernel
theorem dX3_isThere_12 : decode cX3_isThere 12 = .ok (.iconst 1, 1) := by decide +kernel
theorem dX3_isThere_13 : decode cX3_isThere 13 = .ok (.goto 4, 3) := by decide +kernel
theorem dX3_isThere_16 : decode cX3_isThere 16 = .ok (.iconst 0, 1) := by decide +kernel
theorem dX3_isThere_17 : decode cX3_isThere 17 = .ok (.ireturn, 1) := by decide +kernel
theorem dX3_isHeld_0 : decode cX3_isHeld 0 = .ok (.aload_n 1, 1) := by decide +kernel
theorem dX3_isHeld_1 : decode cX3_isHeld 1 = .ok (.iload_n 2, 1) := by decide +kernel
theorem dX3_isHeld_2 : decode cX3_isHeld 2 = .ok (.invokevirtual 75, 3) := by decide +kernel
theorem dX3_isHeld_5 : decode cX3_isHeld 5 = .ok (.ifCond .eq 25, 3) := by decide +kernel
theorem dX3_isHeld_8 : decode cX3_isHeld 8 = .ok (.aload_n 0, 1) := by decide +kernel
theorem dX3_isHeld_9 : decode cX3_isHeld 9 = .ok (.iload_n 3, 1) := by decide +kernel
theorem dX3_isHeld_10 : decode cX3_isHeld 10 = .ok (.invokevirtual 71, 3) := by decide +kernel
theorem dX3_isHeld_13 : decode cX3_isHeld 13 = .ok (.ifCond .eq 17, 3) := by decide +kernel
theorem dX3_isHeld_16 : decode cX3_isHeld 16 = .ok (.aload_n 0, 1) := by decide +kernel
theorem dX3_isHeld_17 : decode cX3_isHeld 17 = .ok (.getfield 24, 3) := by decide +kernel
theorem dX3_isHeld_20 : decode cX3_isHeld 20 = .ok (.iload_n 3, 1) := by decide +kernel
theorem dX3_isHeld_21 : decode cX3_isHeld 21 = .ok (.iaload, 1) := by decide +kernel
theorem dX3_isHeld_22 : decode cX3_isHeld 22 = .ok (.iload_n 2, 1) := by decide +kernel
theorem dX3_isHeld_23 : decode cX3_isHeld 23 = .ok (.if_icmp .ne 7, 3) := by decide +kernel
theorem dX3_isHeld_26 : decode cX3_isHeld 26 = .ok (.iconst 1, 1) := by decide +kernel
theorem dX3_isHeld_27 : decode cX3_isHeld 27 = .ok (.goto 4, 3) := by decide +kernel
theorem dX3_isHeld_30 : decode cX3_isHeld 30 = .ok (.iconst 0, 1) := by decide +kernel
theorem dX3_isHeld_31 : decode cX3_isHeld 31 = .ok (.ireturn, 1) := by decide +kernel
theorem dX3_slipsOn_0 : decode cX3_slipsOn 0 = .ok (.aload_n 0, 1) := by decide +kernel
theorem dX3_slipsOn_1 : decode cX3_slipsOn 1 = .ok (.getfield 9, 3) := by decide +kernel
theorem dX3_slipsOn_4 : decode cX3_slipsOn 4 = .ok (.iload_n 1, 1) := by decide +kernel
theorem dX3_slipsOn_5 : decode cX3_slipsOn 5 = .ok (.iaload, 1) := by decide +kernel
theorem dX3_slipsOn_6 : decode cX3_slipsOn 6 = .ok (.invokestatic 80, 3) := by decide +kernel
theorem dX3_slipsOn_9 : decode cX3_slipsOn 9 = .ok (.ireturn, 1) := by decide +kernel
theorem dX3_apart_0 : decode cX3_apart 0 = .ok (.aload_n 0, 1) := by decide +kernel
theorem dX3_apart_1 : decode cX3_apart 1 = .ok (.getfield 9, 3) := by decide +kernel
theorem dX3_apart_4 : decode cX3_apart 4 = .ok (.iload_n 1, 1) := by decide +kernel
theorem dX3_apart_5 : decode cX3_apart 5 = .ok (.iaload, 1) := by decide +kernel
theorem dX3_apart_6 : decode cX3_apart 6 = .ok (.aload_n 0, 1) := by decide +kernel
theorem dX3_apart_7 : decode cX3_apart 7 = .ok (.getfield 9, 3) := by decide +kernel
theorem dX3_apart_10 : decode cX3_apart 10 = .ok (.iload_n 2, 1) := by decide +kernel
theorem dX3_apart_11 : decode cX3_apart 11 = .ok (.iaload, 1) := by decide +kernel
theorem dX3_apart_12 : decode cX3_apart 12 = .ok (.ixor, 1) := by decide +kernel
theorem dX3_apart_13 : decode cX3_apart 13 = .ok (.invokestatic 80, 3) := by decide +kernel
theorem dX3_apart_16 : decode cX3_apart 16 = .ok (.ireturn, 1) := by decide +kernel
theorem dX3_joins_0 : decode cX3_joins 0 = .ok (.iload_n 1, 1) := by decide +kernel
theorem dX3_joins_1 : decode cX3_joins 1 = .ok (.iload_n 3, 1) := by decide +kernel
theorem dX3_joins_2 : decode cX3_joins 2 = .ok (.if_icmp .eq 12, 3) := by decide +kernel
theorem dX3_joins_5 : decode cX3_joins 5 = .ok (.iload_n 2, 1) := by decide +kernel
theorem dX3_joins_6 : decode cX3_joins 6 = .ok (.iload_n 3, 1) := by decide +kernel
theorem dX3_joins_7 : decode cX3_joins 7 = .ok (.if_icmp .eq 7, 3) := by decide +kernel
theorem dX3_joins_10 : decode cX3_joins 10 = .ok (.iconst 1, 1) := by decide +kernel
theorem dX3_joins_11 : decode cX3_joins 11 = .ok (.goto 4, 3) := by decide +kernel
theorem dX3_joins_14 : decode cX3_joins 14 = .ok (.iconst 0, 1) := by decide +kernel
theorem dX3_joins_15 : decode cX3_joins 15 = .ok (.istore 4, 2) := by decide +kernel
theorem dX3_joins_17 : decode cX3_joins 17 = .ok (.iload 4, 2) := by decide +kernel
theorem dX3_joins_19 : decode cX3_joins 19 = .ok (.ifCond .eq 37, 3) := by decide +kernel
theorem dX3_joins_22 : decode cX3_joins 22 = .ok (.aload_n 0, 1) := by decide +kernel
theorem dX3_joins_23 : decode cX3_joins 23 = .ok (.getfield 9, 3) := by decide +kernel
theorem dX3_joins_26 : decode cX3_joins 26 = .ok (.iload_n 3, 1) := by decide +kernel
theorem dX3_joins_27 : decode cX3_joins 27 = .ok (.iaload, 1) := by decide +kernel
theorem dX3_joins_28 : decode cX3_joins 28 = .ok (.aload_n 0, 1) := by decide +kernel
theorem dX3_joins_29 : decode cX3_joins 29 = .ok (.getfield 9, 3) := by decide +kernel
theorem dX3_joins_32 : decode cX3_joins 32 = .ok (.iload_n 1, 1) := by decide +kernel
theorem dX3_joins_33 : decode cX3_joins 33 = .ok (.iaload, 1) := by decide +kernel
theorem dX3_joins_34 : decode cX3_joins 34 = .ok (.ixor, 1) := by decide +kernel
theorem dX3_joins_35 : decode cX3_joins 35 = .ok (.aload_n 0, 1) := by decide +kernel
theorem dX3_joins_36 : decode cX3_joins 36 = .ok (.getfield 9, 3) := by decide +kernel
theorem dX3_joins_39 : decode cX3_joins 39 = .ok (.iload_n 3, 1) := by decide +kernel
theorem dX3_joins_40 : decode cX3_joins 40 = .ok (.iaload, 1) := by decide +kernel
theorem dX3_joins_41 : decode cX3_joins 41 = .ok (.aload_n 0, 1) := by decide +kernel
theorem dX3_joins_42 : decode cX3_joins 42 = .ok (.getfield 9, 3) := by decide +kernel
theorem dX3_joins_45 : decode cX3_joins 45 = .ok (.iload_n 2, 1) := by decide +kernel
theorem dX3_joins_46 : decode cX3_joins 46 = .ok (.iaload, 1) := by decide +kernel
theorem dX3_joins_47 : decode cX3_joins 47 = .ok (.ixor, 1) := by decide +kernel
theorem dX3_joins_48 : decode cX3_joins 48 = .ok (.iand, 1) := by decide +kernel
theorem dX3_joins_49 : decode cX3_joins 49 = .ok (.ifCond .ne 7, 3) := by decide +kernel
theorem dX3_joins_52 : decode cX3_joins 52 = .ok (.iconst 1, 1) := by decide +kernel
theorem dX3_joins_53 : decode cX3_joins 53 = .ok (.goto 4, 3) := by decide +kernel
theorem dX3_joins_56 : decode cX3_joins 56 = .ok (.iconst 0, 1) := by decide +kernel
theorem dX3_joins_57 : decode cX3_joins 57 = .ok (.ireturn, 1) := by decide +kernel
theorem dX3_alike_0 : decode cX3_alike 0 = .ok (.iconst 0, 1) := by decide +kernel
theorem dX3_alike_1 : decode cX3_alike 1 = .ok (.istore_n 3, 1) := by decide +kernel
theorem dX3_alike_2 : decode cX3_alike 2 = .ok (.iconst 0, 1) := by decide +kernel
theorem dX3_alike_3 : decode cX3_alike 3 = .ok (.istore 4, 2) := by decide +kernel
theorem dX3_alike_5 : decode cX3_alike 5 = .ok (.iload 4, 2) := by decide +kernel
theorem dX3_alike_7 : decode cX3_alike 7 = .ok (.aload_n 0, 1) := by decide +kernel
theorem dX3_alike_8 : decode cX3_alike 8 = .ok (.getfield 34, 3) := by decide +kernel
theorem dX3_alike_11 : decode cX3_alike 11 = .ok (.if_icmp .ge 35, 3) := by decide +kernel
theorem dX3_alike_14 : decode cX3_alike 14 = .ok (.aload_n 0, 1) := by decide +kernel
theorem dX3_alike_15 : decode cX3_alike 15 = .ok (.getfield 9, 3) := by decide +kernel
theorem dX3_alike_18 : decode cX3_alike 18 = .ok (.iload_n 1, 1) := by decide +kernel
theorem dX3_alike_19 : decode cX3_alike 19 = .ok (.iaload, 1) := by decide +kernel
theorem dX3_alike_20 : decode cX3_alike 20 = .ok (.aload_n 0, 1) := by decide +kernel
theorem dX3_alike_21 : decode cX3_alike 21 = .ok (.getfield 9, 3) := by decide +kernel
theorem dX3_alike_24 : decode cX3_alike 24 = .ok (.iload 4, 2) := by decide +kernel
theorem dX3_alike_26 : decode cX3_alike 26 = .ok (.iaload, 1) := by decide +kernel
theorem dX3_alike_27 : decode cX3_alike 27 = .ok (.ixor, 1) := by decide +kernel
theorem dX3_alike_28 : decode cX3_alike 28 = .ok (.iload_n 2, 1) := by decide +kernel
theorem dX3_alike_29 : decode cX3_alike 29 = .ok (.iand, 1) := by decide +kernel
theorem dX3_alike_30 : decode cX3_alike 30 = .ok (.ifCond .ne 10, 3) := by decide +kernel
theorem dX3_alike_33 : decode cX3_alike 33 = .ok (.iload_n 3, 1) := by decide +kernel
theorem dX3_alike_34 : decode cX3_alike 34 = .ok (.iconst 1, 1) := by decide +kernel
theorem dX3_alike_35 : decode cX3_alike 35 = .ok (.iload 4, 2) := by decide +kernel
theorem dX3_alike_37 : decode cX3_alike 37 = .ok (.ishl, 1) := by decide +kernel
theorem dX3_alike_38 : decode cX3_alike 38 = .ok (.ior, 1) := by decide +kernel
theorem dX3_alike_39 : decode cX3_alike 39 = .ok (.istore_n 3, 1) := by decide +kernel
theorem dX3_alike_40 : decode cX3_alike 40 = .ok (.iinc 4 1, 3) := by decide +kernel
theorem dX3_alike_43 : decode cX3_alike 43 = .ok (.goto (-38), 3) := by decide +kernel
theorem dX3_alike_46 : decode cX3_alike 46 = .ok (.iload_n 3, 1) := by decide +kernel
theorem dX3_alike_47 : decode cX3_alike 47 = .ok (.ireturn, 1) := by decide +kernel
theorem dX3_isFitting_0 : decode cX3_isFitting 0 = .ok (.aload_n 0, 1) := by decide +kernel
theorem dX3_isFitting_1 : decode cX3_isFitting 1 = .ok (.getfield 9, 3) := by decide +kernel
theorem dX3_isFitting_4 : decode cX3_isFitting 4 = .ok (.iload_n 1, 1) := by decide +kernel
theorem dX3_isFitting_5 : decode cX3_isFitting 5 = .ok (.iaload, 1) := by decide +kernel
theorem dX3_isFitting_6 : decode cX3_isFitting 6 = .ok (.aload_n 0, 1) := by decide +kernel
theorem dX3_isFitting_7 : decode cX3_isFitting 7 = .ok (.getfield 46, 3) := by decide +kernel
theorem dX3_isFitting_10 : decode cX3_isFitting 10 = .ok (.iand, 1) := by decide +kernel
theorem dX3_isFitting_11 : decode cX3_isFitting 11 = .ok (.aload_n 0, 1) := by decide +kernel
theorem dX3_isFitting_12 : decode cX3_isFitting 12 = .ok (.getfield 46, 3) := by decide +kernel
theorem dX3_isFitting_15 : decode cX3_isFitting 15 = .ok (.if_icmp .ne 21, 3) := by decide +kernel
theorem dX3_isFitting_18 : decode cX3_isFitting 18 = .ok (.aload_n 0, 1) := by decide +kernel
theorem dX3_isFitting_19 : decode cX3_isFitting 19 = .ok (.getfield 9, 3) := by decide +kernel
theorem dX3_isFitting_22 : decode cX3_isFitting 22 = .ok (.iload_n 1, 1) := by decide +kernel
theorem dX3_isFitting_23 : decode cX3_isFitting 23 = .ok (.iaload, 1) := by decide +kernel
theorem dX3_isFitting_24 : decode cX3_isFitting 24 = .ok (.aload_n 0, 1) := by decide +kernel
theorem dX3_isFitting_25 : decode cX3_isFitting 25 = .ok (.getfield 49, 3) := by decide +kernel
theorem dX3_isFitting_28 : decode cX3_isFitting 28 = .ok (.iand, 1) := by decide +kernel
theorem dX3_isFitting_29 : decode cX3_isFitting 29 = .ok (.ifCond .ne 7, 3) := by decide +kernel
theorem dX3_isFitting_32 : decode cX3_isFitting 32 = .ok (.iconst 1, 1) := by decide +kernel
theorem dX3_isFitting_33 : decode cX3_isFitting 33 = .ok (.goto 4, 3) := by decide +kernel
theorem dX3_isFitting_36 : decode cX3_isFitting 36 = .ok (.iconst 0, 1) := by decide +kernel
theorem dX3_isFitting_37 : decode cX3_isFitting 37 = .ok (.istore_n 2, 1) := by decide +kernel
theorem dX3_isFitting_38 : decode cX3_isFitting 38 = .ok (.iload_n 2, 1) := by decide +kernel
theorem dX3_isFitting_39 : decode cX3_isFitting 39 = .ok (.ifCond .eq 18, 3) := by decide +kernel
theorem dX3_isFitting_42 : decode cX3_isFitting 42 = .ok (.aload_n 0, 1) := by decide +kernel
theorem dX3_isFitting_43 : decode cX3_isFitting 43 = .ok (.getfield 24, 3) := by decide +kernel
theorem dX3_isFitting_46 : decode cX3_isFitting 46 = .ok (.iload_n 1, 1) := by decide +kernel
theorem dX3_isFitting_47 : decode cX3_isFitting 47 = .ok (.iaload, 1) := by decide +kernel
theorem dX3_isFitting_48 : decode cX3_isFitting 48 = .ok (.bipush 6, 2) := by decide +kernel
theorem dX3_isFitting_50 : decode cX3_isFitting 50 = .ok (.if_icmp .eq 7, 3) := by decide +kernel
theorem dX3_isFitting_53 : decode cX3_isFitting 53 = .ok (.iconst 1, 1) := by decide +kernel
theorem dX3_isFitting_54 : decode cX3_isFitting 54 = .ok (.goto 4, 3) := by decide +kernel
theorem dX3_isFitting_57 : decode cX3_isFitting 57 = .ok (.iconst 0, 1) := by decide +kernel
theorem dX3_isFitting_58 : decode cX3_isFitting 58 = .ok (.ireturn, 1) := by decide +kernel
theorem dX3_heldBy_0 : decode cX3_heldBy 0 = .ok (.iconst 0, 1) := by decide +kernel
theorem dX3_heldBy_1 : decode cX3_heldBy 1 = .ok (.istore_n 2, 1) := by decide +kernel
theorem dX3_heldBy_2 : decode cX3_heldBy 2 = .ok (.iconst 0, 1) := by decide +kernel
theorem dX3_heldBy_3 : decode cX3_heldBy 3 = .ok (.istore_n 3, 1) := by decide +kernel
theorem dX3_heldBy_4 : decode cX3_heldBy 4 = .ok (.iload_n 3, 1) := by decide +kernel
theorem dX3_heldBy_5 : decode cX3_heldBy 5 = .ok (.aload_n 0, 1) := by decide +kernel
theorem dX3_heldBy_6 : decode cX3_heldBy 6 = .ok (.getfield 34, 3) := by decide +kernel
theorem dX3_heldBy_9 : decode cX3_heldBy 9 = .ok (.if_icmp .ge 25, 3) := by decide +kernel
theorem dX3_heldBy_12 : decode cX3_heldBy 12 = .ok (.aload_n 0, 1) := by decide +kernel
theorem dX3_heldBy_13 : decode cX3_heldBy 13 = .ok (.getfield 24, 3) := by decide +kernel
theorem dX3_heldBy_16 : decode cX3_heldBy 16 = .ok (.iload_n 3, 1) := by decide +kernel
theorem dX3_heldBy_17 : decode cX3_heldBy 17 = .ok (.iaload, 1) := by decide +kernel
theorem dX3_heldBy_18 : decode cX3_heldBy 18 = .ok (.iload_n 1, 1) := by decide +kernel
theorem dX3_heldBy_19 : decode cX3_heldBy 19 = .ok (.if_icmp .ne 9, 3) := by decide +kernel
theorem dX3_heldBy_22 : decode cX3_heldBy 22 = .ok (.iload_n 2, 1) := by decide +kernel
theorem dX3_heldBy_23 : decode cX3_heldBy 23 = .ok (.iconst 1, 1) := by decide +kernel
theorem dX3_heldBy_24 : decode cX3_heldBy 24 = .ok (.iload_n 3, 1) := by decide +kernel
theorem dX3_heldBy_25 : decode cX3_heldBy 25 = .ok (.ishl, 1) := by decide +kernel
theorem dX3_heldBy_26 : decode cX3_heldBy 26 = .ok (.ior, 1) := by decide +kernel
theorem dX3_heldBy_27 : decode cX3_heldBy 27 = .ok (.istore_n 2, 1) := by decide +kernel
theorem dX3_heldBy_28 : decode cX3_heldBy 28 = .ok (.iinc 3 1, 3) := by decide +kernel
theorem dX3_heldBy_31 : decode cX3_heldBy 31 = .ok (.goto (-27), 3) := by decide +kernel
theorem dX3_heldBy_34 : decode cX3_heldBy 34 = .ok (.iload_n 2, 1) := by decide +kernel
theorem dX3_heldBy_35 : decode cX3_heldBy 35 = .ok (.ireturn, 1) := by decide +kernel
theorem dX3_allCoins_0 : decode cX3_allCoins 0 = .ok (.iconst 0, 1) := by decide +kernel
theorem dX3_allCoins_1 : decode cX3_allCoins 1 = .ok (.istore_n 1, 1) := by decide +kernel
theorem dX3_allCoins_2 : decode cX3_allCoins 2 = .ok (.iconst 0, 1) := by decide +kernel
theorem dX3_allCoins_3 : decode cX3_allCoins 3 = .ok (.istore_n 2, 1) := by decide +kernel
theorem dX3_allCoins_4 : decode cX3_allCoins 4 = .ok (.iload_n 2, 1) := by decide +kernel
theorem dX3_allCoins_5 : decode cX3_allCoins 5 = .ok (.iconst 5, 1) := by decide +kernel
theorem dX3_allCoins_6 : decode cX3_allCoins 6 = .ok (.if_icmp .ge 18, 3) := by decide +kernel
theorem dX3_allCoins_9 : decode cX3_allCoins 9 = .ok (.iload_n 1, 1) := by decide +kernel
theorem dX3_allCoins_10 : decode cX3_allCoins 10 = .ok (.aload_n 0, 1) := by decide +kernel
theorem dX3_allCoins_11 : decode cX3_allCoins 11 = .ok (.getfield 27, 3) := by decide +kernel
theorem dX3_allCoins_14 : decode cX3_allCoins 14 = .ok (.iload_n 2, 1) := by decide +kernel
theorem dX3_allCoins_15 : decode cX3_allCoins 15 = .ok (.iaload, 1) := by decide +kernel
theorem dX3_allCoins_16 : decode cX3_allCoins 16 = .ok (.iadd, 1) := by decide +kernel
theorem dX3_allCoins_17 : decode cX3_allCoins 17 = .ok (.istore_n 1, 1) := by decide +kernel
theorem dX3_allCoins_18 : decode cX3_allCoins 18 = .ok (.iinc 2 1, 3) := by decide +kernel
theorem dX3_allCoins_21 : decode cX3_allCoins 21 = .ok (.goto (-17), 3) := by decide +kernel
theorem dX3_allCoins_24 : decode cX3_allCoins 24 = .ok (.iload_n 1, 1) := by decide +kernel
theorem dX3_allCoins_25 : decode cX3_allCoins 25 = .ok (.ireturn, 1) := by decide +kernel
theorem dX3_worthOf_0 : decode cX3_worthOf 0 = .ok (.aload_n 0, 1) := by decide +kernel
theorem dX3_worthOf_1 : decode cX3_worthOf 1 = .ok (.iload_n 2, 1) := by decide +kernel
theorem dX3_worthOf_2 : decode cX3_worthOf 2 = .ok (.invokevirtual 86, 3) := by decide +kernel
theorem dX3_worthOf_5 : decode cX3_worthOf 5 = .ok (.istore_n 3, 1) := by decide +kernel
theorem dX3_worthOf_6 : decode cX3_worthOf 6 = .ok (.bipush 100, 2) := by decide +kernel
theorem dX3_worthOf_8 : decode cX3_worthOf 8 = .ok (.iload_n 3, 1) := by decide +kernel
theorem dX3_worthOf_9 : decode cX3_worthOf 9 = .ok (.bipush 10, 2) := by decide +kernel
theorem dX3_worthOf_11 : decode cX3_worthOf 11 = .ok (.imul, 1) := by decide +kernel
theorem dX3_worthOf_12 : decode cX3_worthOf 12 = .ok (.isub, 1) := by decide +kernel
theorem dX3_worthOf_13 : decode cX3_worthOf 13 = .ok (.iload_n 2, 1) := by decide +kernel
theorem dX3_worthOf_14 : decode cX3_worthOf 14 = .ok (.isub, 1) := by decide +kernel
theorem dX3_worthOf_15 : decode cX3_worthOf 15 = .ok (.istore 4, 2) := by decide +kernel
theorem dX3_worthOf_17 : decode cX3_worthOf 17 = .ok (.aload_n 1, 1) := by decide +kernel
theorem dX3_worthOf_18 : decode cX3_worthOf 18 = .ok (.getfield 89, 3) := by decide +kernel
theorem dX3_worthOf_21 : decode cX3_worthOf 21 = .ok (.ifnull 20, 3) := by decide +kernel
theorem dX3_worthOf_24 : decode cX3_worthOf 24 = .ok (.aload_n 1, 1) := by decide +kernel
theorem dX3_worthOf_25 : decode cX3_worthOf 25 = .ok (.getfield 89, 3) := by decide +kernel
theorem dX3_worthOf_28 : decode cX3_worthOf 28 = .ok (.iload_n 3, 1) := by decide +kernel
theorem dX3_worthOf_29 : decode cX3_worthOf 29 = .ok (.iload_n 2, 1) := by decide +kernel
theorem dX3_worthOf_30 : decode cX3_worthOf 30 = .ok (.aload_n 0, 1) := by decide +kernel
theorem dX3_worthOf_31 : decode cX3_worthOf 31 = .ok (.getfield 21, 3) := by decide +kernel
theorem dX3_worthOf_34 : decode cX3_worthOf 34 = .ok (.iload_n 2, 1) := by decide +kernel
theorem dX3_worthOf_35 : decode cX3_worthOf 35 = .ok (.iaload, 1) := by decide +kernel
theorem dX3_worthOf_36 : decode cX3_worthOf 36 = .ok (.invokevirtual 93, 3) := by decide +kernel
theorem dX3_worthOf_39 : decode cX3_worthOf 39 = .ok (.istore 4, 2) := by decide +kernel
theorem dX3_worthOf_41 : decode cX3_worthOf 41 = .ok (.iconst 0, 1) := by decide +kernel
theorem dX3_worthOf_42 : decode cX3_worthOf 42 = .ok (.sipush 999, 3) := by decide +kernel
theorem dX3_worthOf_45 : decode cX3_worthOf 45 = .ok (.iload 4, 2) := by decide +kernel
theorem dX3_worthOf_47 : decode cX3_worthOf 47 = .ok (.invokestatic 99, 3) := by decide +kernel
theorem dX3_worthOf_50 : decode cX3_worthOf 50 = .ok (.invokestatic 105, 3) := by decide +kernel
theorem dX3_worthOf_53 : decode cX3_worthOf 53 = .ok (.ireturn, 1) := by decide +kernel
theorem dX3_hardOf_0 : decode cX3_hardOf 0 = .ok (.aload_n 0, 1) := by decide +kernel
theorem dX3_hardOf_1 : decode cX3_hardOf 1 = .ok (.iload_n 2, 1) := by decide +kernel
theorem dX3_hardOf_2 : decode cX3_hardOf 2 = .ok (.invokevirtual 86, 3) := by decide +kernel
theorem dX3_hardOf_5 : decode cX3_hardOf 5 = .ok (.istore 4, 2) := by decide +kernel
theorem dX3_hardOf_7 : decode cX3_hardOf 7 = .ok (.aload_n 1, 1) := by decide +kernel
theorem dX3_hardOf_8 : decode cX3_hardOf 8 = .ok (.getfield 108, 3) := by decide +kernel
theorem dX3_hardOf_11 : decode cX3_hardOf 11 = .ok (.ifnonnull 10, 3) := by decide +kernel
theorem dX3_hardOf_14 : decode cX3_hardOf 14 = .ok (.iload 4, 2) := by decide +kernel
theorem dX3_hardOf_16 : decode cX3_hardOf 16 = .ok (.iload_n 3, 1) := by decide +kernel
theorem dX3_hardOf_17 : decode cX3_hardOf 17 = .ok (.iadd, 1) := by decide +kernel
theorem dX3_hardOf_18 : decode cX3_hardOf 18 = .ok (.goto 14, 3) := by decide +kernel
theorem dX3_hardOf_21 : decode cX3_hardOf 21 = .ok (.aload_n 1, 1) := by decide +kernel
theorem dX3_hardOf_22 : decode cX3_hardOf 22 = .ok (.getfield 108, 3) := by decide +kernel
theorem dX3_hardOf_25 : decode cX3_hardOf 25 = .ok (.iload 4, 2) := by decide +kernel
theorem dX3_hardOf_27 : decode cX3_hardOf 27 = .ok (.iload_n 2, 1) := by decide +kernel
theorem dX3_hardOf_28 : decode cX3_hardOf 28 = .ok (.iload_n 3, 1) := by decide +kernel
theorem dX3_hardOf_29 : decode cX3_hardOf 29 = .ok (.invokevirtual 93, 3) := by decide +kernel
theorem dX3_hardOf_32 : decode cX3_hardOf 32 = .ok (.ireturn, 1) := by decide +kernel
theorem dX3_canComeIn_0 : decode cX3_canComeIn 0 = .ok (.aload_n 1, 1) := by decide +kernel
theorem dX3_canComeIn_1 : decode cX3_canComeIn 1 = .ok (.getfield 111, 3) := by decide +kernel
theorem dX3_canComeIn_4 : decode cX3_canComeIn 4 = .ok (.iload_n 2, 1) := by decide +kernel
theorem dX3_canComeIn_5 : decode cX3_canComeIn 5 = .ok (.iaload, 1) := by decide +kernel
theorem dX3_canComeIn_6 : decode cX3_canComeIn 6 = .ok (.istore_n 3, 1) := by decide +kernel
theorem dX3_canComeIn_7 : decode cX3_canComeIn 7 = .ok (.aload_n 1, 1) := by decide +kernel
theorem dX3_canComeIn_8 : decode cX3_canComeIn 8 = .ok (.getfield 114, 3) := by decide +kernel
theorem dX3_canComeIn_11 : decode cX3_canComeIn 11 = .ok (.iload_n 2, 1) := by decide +kernel
theorem dX3_canComeIn_12 : decode cX3_canComeIn 12 = .ok (.iaload, 1) := by decide +kernel
theorem dX3_canComeIn_13 : decode cX3_canComeIn 13 = .ok (.aload_n 0, 1) := by decide +kernel
theorem dX3_canComeIn_14 : decode cX3_canComeIn 14 = .ok (.getfield 40, 3) := by decide +kernel
theorem dX3_canComeIn_17 : decode cX3_canComeIn 17 = .ok (.iconst (-1), 1) := by decide +kernel
theorem dX3_canComeIn_18 : decode cX3_canComeIn 18 = .ok (.ixor, 1) := by decide +kernel
theorem dX3_canComeIn_19 : decode cX3_canComeIn 19 = .ok (.iand, 1) := by decide +kernel
theorem dX3_canComeIn_20 : decode cX3_canComeIn 20 = .ok (.ifCond .eq 7, 3) := by decide +kernel
theorem dX3_canComeIn_23 : decode cX3_canComeIn 23 = .ok (.iconst 1, 1) := by decide +kernel
theorem dX3_canComeIn_24 : decode cX3_canComeIn 24 = .ok (.goto 4, 3) := by decide +kernel
theorem dX3_canComeIn_27 : decode cX3_canComeIn 27 = .ok (.iconst 0, 1) := by decide +kernel
theorem dX3_canComeIn_28 : decode cX3_canComeIn 28 = .ok (.istore 4, 2) := by decide +kernel
theorem dX3_canComeIn_30 : decode cX3_canComeIn 30 = .ok (.iload_n 3, 1) := by decide +kernel
theorem dX3_canComeIn_31 : decode cX3_canComeIn 31 = .ok (.iconst 1, 1) := by decide +kernel
theorem dX3_canComeIn_32 : decode cX3_canComeIn 32 = .ok (.if_icmp .eq 13, 3) := by decide +kernel
theorem dX3_canComeIn_35 : decode cX3_canComeIn 35 = .ok (.iload_n 3, 1) := by decide +kernel
theorem dX3_canComeIn_36 : decode cX3_canComeIn 36 = .ok (.iconst 3, 1) := by decide +kernel
theorem dX3_canComeIn_37 : decode cX3_canComeIn 37 = .ok (.if_icmp .eq 12, 3) := by decide +kernel
theorem dX3_canComeIn_40 : decode cX3_canComeIn 40 = .ok (.iload 4, 2) := by decide +kernel
theorem dX3_canComeIn_42 : decode cX3_canComeIn 42 = .ok (.ifCond .eq 7, 3) := by decide +kernel
theorem dX3_canComeIn_45 : decode cX3_canComeIn 45 = .ok (.iconst 1, 1) := by decide +kernel
theorem dX3_canComeIn_46 : decode cX3_canComeIn 46 = .ok (.goto 4, 3) := by decide +kernel
theorem dX3_canComeIn_49 : decode cX3_canComeIn 49 = .ok (.iconst 0, 1) := by decide +kernel
theorem dX3_canComeIn_50 : decode cX3_canComeIn 50 = .ok (.ireturn, 1) := by decide +kernel
theorem dX3_swap_0 : decode cX3_swap 0 = .ok (.aload_n 0, 1) := by decide +kernel
theorem dX3_swap_1 : decode cX3_swap 1 = .ok (.aload_n 1, 1) := by decide +kernel
theorem dX3_swap_2 : decode cX3_swap 2 = .ok (.iload_n 2, 1) := by decide +kernel
theorem dX3_swap_3 : decode cX3_swap 3 = .ok (.iload_n 3, 1) := by decide +kernel
theorem dX3_swap_4 : decode cX3_swap 4 = .ok (.invokevirtual 117, 3) := by decide +kernel
theorem dX3_swap_7 : decode cX3_swap 7 = .ok (.ifCond .eq 12, 3) := by decide +kernel
theorem dX3_swap_10 : decode cX3_swap 10 = .ok (.aload_n 0, 1) := by decide +kernel
theorem dX3_swap_11 : decode cX3_swap 11 = .ok (.aload_n 1, 1) := by decide +kernel
theorem dX3_swap_12 : decode cX3_swap 12 = .ok (.iload_n 2, 1) := by decide +kernel
theorem dX3_swap_13 : decode cX3_swap 13 = .ok (.invokevirtual 121, 3) := by decide +kernel
theorem dX3_swap_16 : decode cX3_swap 16 = .ok (.ifCond .ne 5, 3) := by decide +kernel
theorem dX3_swap_19 : decode cX3_swap 19 = .ok (.iconst (-1), 1) := by decide +kernel
theorem dX3_swap_20 : decode cX3_swap 20 = .ok (.ireturn, 1) := by decide +kernel
theorem dX3_swap_21 : decode cX3_swap 21 = .ok (.aload_n 0, 1) := by decide +kernel
theorem dX3_swap_22 : decode cX3_swap 22 = .ok (.getfield 37, 3) := by decide +kernel
theorem dX3_swap_25 : decode cX3_swap 25 = .ok (.istore 4, 2) := by decide +kernel
theorem dX3_swap_27 : decode cX3_swap 27 = .ok (.aload_n 0, 1) := by decide +kernel
theorem dX3_swap_28 : decode cX3_swap 28 = .ok (.getfield 24, 3) := by decide +kernel
theorem dX3_swap_31 : decode cX3_swap 31 = .ok (.iload_n 3, 1) := by decide +kernel
theorem dX3_swap_32 : decode cX3_swap 32 = .ok (.iconst 5, 1) := by decide +kernel
theorem dX3_swap_33 : decode cX3_swap 33 = .ok (.iastore, 1) := by decide +kernel
theorem dX3_swap_34 : decode cX3_swap 34 = .ok (.aload_n 0, 1) := by decide +kernel
theorem dX3_swap_35 : decode cX3_swap 35 = .ok (.getfield 24, 3) := by decide +kernel
theorem dX3_swap_38 : decode cX3_swap 38 = .ok (.iload 4, 2) := by decide +kernel
theorem dX3_swap_40 : decode cX3_swap 40 = .ok (.iload_n 2, 1) := by decide +kernel
theorem dX3_swap_41 : decode cX3_swap 41 = .ok (.iastore, 1) := by decide +kernel
theorem dX3_swap_42 : decode cX3_swap 42 = .ok (.aload_n 0, 1) := by decide +kernel
theorem dX3_swap_43 : decode cX3_swap 43 = .ok (.iload_n 3, 1) := by decide +kernel
theorem dX3_swap_44 : decode cX3_swap 44 = .ok (.putfield 37, 3) := by decide +kernel
theorem dX3_swap_47 : decode cX3_swap 47 = .ok (.aload_n 1, 1) := by decide +kernel
theorem dX3_swap_48 : decode cX3_swap 48 = .ok (.getfield 111, 3) := by decide +kernel
theorem dX3_swap_51 : decode cX3_swap 51 = .ok (.iload_n 2, 1) := by decide +kernel
theorem dX3_swap_52 : decode cX3_swap 52 = .ok (.iaload, 1) := by decide +kernel
theorem dX3_swap_53 : decode cX3_swap 53 = .ok (.iconst 2, 1) := by decide +kernel
theorem dX3_swap_54 : decode cX3_swap 54 = .ok (.if_icmp .ne 22, 3) := by decide +kernel
theorem dX3_swap_57 : decode cX3_swap 57 = .ok (.aload_n 0, 1) := by decide +kernel
theorem dX3_swap_58 : decode cX3_swap 58 = .ok (.getfield 9, 3) := by decide +kernel
theorem dX3_swap_61 : decode cX3_swap 61 = .ok (.iload 4, 2) := by decide +kernel
theorem dX3_swap_63 : decode cX3_swap 63 = .ok (.dup2, 1) := by decide +kernel
theorem dX3_swap_64 : decode cX3_swap 64 = .ok (.iaload, 1) := by decide +kernel
theorem dX3_swap_65 : decode cX3_swap 65 = .ok (.aload_n 0, 1) := by decide +kernel
theorem dX3_swap_66 : decode cX3_swap 66 = .ok (.getfield 9, 3) := by decide +kernel
theorem dX3_swap_69 : decode cX3_swap 69 = .ok (.iload 4, 2) := by decide +kernel
theorem dX3_swap_71 : decode cX3_swap 71 = .ok (.iaload, 1) := by decide +kernel
theorem dX3_swap_72 : decode cX3_swap 72 = .ok (.iconst 1, 1) := by decide +kernel
theorem dX3_swap_73 : decode cX3_swap 73 = .ok (.isub, 1) := by decide +kernel
theorem dX3_swap_74 : decode cX3_swap 74 = .ok (.iand, 1) := by decide +kernel
theorem dX3_swap_75 : decode cX3_swap 75 = .ok (.iastore, 1) := by decide +kernel
theorem dX3_swap_76 : decode cX3_swap 76 = .ok (.iload 4, 2) := by decide +kernel
theorem dX3_swap_78 : decode cX3_swap 78 = .ok (.ireturn, 1) := by decide +kernel
theorem dX3_copyOf_0 : decode cX3_copyOf 0 = .ok (.aload_n 1, 1) := by decide +kernel
theorem dX3_copyOf_1 : decode cX3_copyOf 1 = .ok (.iload_n 2, 1) := by decide +kernel
theorem dX3_copyOf_2 : decode cX3_copyOf 2 = .ok (.invokevirtual 75, 3) := by decide +kernel
theorem dX3_copyOf_5 : decode cX3_copyOf 5 = .ok (.ifCond .eq 29, 3) := by decide +kernel
theorem dX3_copyOf_8 : decode cX3_copyOf 8 = .ok (.aload_n 0, 1) := by decide +kernel
theorem dX3_copyOf_9 : decode cX3_copyOf 9 = .ok (.iload_n 3, 1) := by decide +kernel
theorem dX3_copyOf_10 : decode cX3_copyOf 10 = .ok (.invokevirtual 71, 3) := by decide +kernel
theorem dX3_copyOf_13 : decode cX3_copyOf 13 = .ok (.ifCond .eq 21, 3) := by decide +kernel
theorem dX3_copyOf_16 : decode cX3_copyOf 16 = .ok (.aload_n 1, 1) := by decide +kernel
theorem dX3_copyOf_17 : decode cX3_copyOf 17 = .ok (.iload 4, 2) := by decide +kernel
theorem dX3_copyOf_19 : decode cX3_copyOf 19 = .ok (.invokevirtual 125, 3) := by decide +kernel
theorem dX3_copyOf_22 : decode cX3_copyOf 22 = .ok (.ifCond .eq 12, 3) := by decide +kernel
theorem dX3_copyOf_25 : decode cX3_copyOf 25 = .ok (.aload_n 0, 1) := by decide +kernel
theorem dX3_copyOf_26 : decode cX3_copyOf 26 = .ok (.getfield 34, 3) := by decide +kernel
theorem dX3_copyOf_29 : decode cX3_copyOf 29 = .ok (.bipush 8, 2) := by decide +kernel
theorem dX3_copyOf_31 : decode cX3_copyOf 31 = .ok (.if_icmp .lt 5, 3) := by decide +kernel
theorem dX3_copyOf_34 : decode cX3_copyOf 34 = .ok (.iconst (-1), 1) := by decide +kernel
theorem dX3_copyOf_35 : decode cX3_copyOf 35 = .ok (.ireturn, 1) := by decide +kernel
theorem dX3_copyOf_36 : decode cX3_copyOf 36 = .ok (.aload_n 1, 1) := by decide +kernel
theorem dX3_copyOf_37 : decode cX3_copyOf 37 = .ok (.getfield 111, 3) := by decide +kernel
theorem dX3_copyOf_40 : decode cX3_copyOf 40 = .ok (.iload_n 2, 1) := by decide +kernel
theorem dX3_copyOf_41 : decode cX3_copyOf 41 = .ok (.iaload, 1) := by decide +kernel
theorem dX3_copyOf_42 : decode cX3_copyOf 42 = .ok (.iconst 3, 1) := by decide +kernel
theorem dX3_copyOf_43 : decode cX3_copyOf 43 = .ok (.if_icmp .ne 7, 3) := by decide +kernel
theorem dX3_copyOf_46 : decode cX3_copyOf 46 = .ok (.iconst 5, 1) := by decide +kernel
theorem dX3_copyOf_47 : decode cX3_copyOf 47 = .ok (.goto 4, 3) := by decide +kernel
theorem dX3_copyOf_50 : decode cX3_copyOf 50 = .ok (.iload_n 2, 1) := by decide +kernel
theorem dX3_copyOf_51 : decode cX3_copyOf 51 = .ok (.istore 5, 2) := by decide +kernel
theorem dX3_copyOf_53 : decode cX3_copyOf 53 = .ok (.aload_n 0, 1) := by decide +kernel
theorem dX3_copyOf_54 : decode cX3_copyOf 54 = .ok (.getfield 24, 3) := by decide +kernel
theorem dX3_copyOf_57 : decode cX3_copyOf 57 = .ok (.iload_n 3, 1) := by decide +kernel
theorem dX3_copyOf_58 : decode cX3_copyOf 58 = .ok (.iaload, 1) := by decide +kernel
theorem dX3_copyOf_59 : decode cX3_copyOf 59 = .ok (.iload 5, 2) := by decide +kernel
theorem dX3_copyOf_61 : decode cX3_copyOf 61 = .ok (.if_icmp .ne 20, 3) := by decide +kernel
theorem dX3_copyOf_64 : decode cX3_copyOf 64 = .ok (.aload_n 1, 1) := by decide +kernel
theorem dX3_copyOf_65 : decode cX3_copyOf 65 = .ok (.getfield 128, 3) := by decide +kernel
theorem dX3_copyOf_68 : decode cX3_copyOf 68 = .ok (.iload_n 2, 1) := by decide +kernel
theorem dX3_copyOf_69 : decode cX3_copyOf 69 = .ok (.iaload, 1) := by decide +kernel
theorem dX3_copyOf_70 : decode cX3_copyOf 70 = .ok (.aload_n 0, 1) := by decide +kernel
theorem dX3_copyOf_71 : decode cX3_copyOf 71 = .ok (.aload_n 1, 1) := by decide +kernel
theorem dX3_copyOf_72 : decode cX3_copyOf 72 = .ok (.iload_n 3, 1) := by decide +kernel
theorem dX3_copyOf_73 : decode cX3_copyOf 73 = .ok (.iload 4, 2) := by decide +kernel
theorem dX3_copyOf_75 : decode cX3_copyOf 75 = .ok (.invokevirtual 131, 3) := by decide +kernel
theorem dX3_copyOf_78 : decode cX3_copyOf 78 = .ok (.if_icmp .ge 5, 3) := by decide +kernel
theorem dX3_copyOf_81 : decode cX3_copyOf 81 = .ok (.iconst (-1), 1) := by decide +kernel
theorem dX3_copyOf_82 : decode cX3_copyOf 82 = .ok (.ireturn, 1) := by decide +kernel
theorem dX3_copyOf_83 : decode cX3_copyOf 83 = .ok (.aload_n 0, 1) := by decide +kernel
theorem dX3_copyOf_84 : decode cX3_copyOf 84 = .ok (.iload_n 3, 1) := by decide +kernel
theorem dX3_copyOf_85 : decode cX3_copyOf 85 = .ok (.iconst 1, 1) := by decide +kernel
theorem dX3_copyOf_86 : decode cX3_copyOf 86 = .ok (.iload 4, 2) := by decide +kernel
theorem dX3_copyOf_88 : decode cX3_copyOf 88 = .ok (.ishl, 1) := by decide +kernel
theorem dX3_copyOf_89 : decode cX3_copyOf 89 = .ok (.iload_n 2, 1) := by decide +kernel
theorem dX3_copyOf_90 : decode cX3_copyOf 90 = .ok (.invokevirtual 135, 3) := by decide +kernel
theorem dX3_copyOf_93 : decode cX3_copyOf 93 = .ok (.aload_n 0, 1) := by decide +kernel
theorem dX3_copyOf_94 : decode cX3_copyOf 94 = .ok (.getfield 34, 3) := by decide +kernel
theorem dX3_copyOf_97 : decode cX3_copyOf 97 = .ok (.iconst 1, 1) := by decide +kernel
theorem dX3_copyOf_98 : decode cX3_copyOf 98 = .ok (.isub, 1) := by decide +kernel
theorem dX3_copyOf_99 : decode cX3_copyOf 99 = .ok (.ireturn, 1) := by decide +kernel
theorem dX3_sale_0 : decode cX3_sale 0 = .ok (.aload_n 0, 1) := by decide +kernel
theorem dX3_sale_1 : decode cX3_sale 1 = .ok (.aload_n 1, 1) := by decide +kernel
theorem dX3_sale_2 : decode cX3_sale 2 = .ok (.iload_n 2, 1) := by decide +kernel
theorem dX3_sale_3 : decode cX3_sale 3 = .ok (.iload_n 3, 1) := by decide +kernel
theorem dX3_sale_4 : decode cX3_sale 4 = .ok (.invokevirtual 117, 3) := by decide +kernel
theorem dX3_sale_7 : decode cX3_sale 7 = .ok (.ifCond .ne 5, 3) := by decide +kernel
theorem dX3_sale_10 : decode cX3_sale 10 = .ok (.iconst (-1), 1) := by decide +kernel
theorem dX3_sale_11 : decode cX3_sale 11 = .ok (.ireturn, 1) := by decide +kernel
theorem dX3_sale_12 : decode cX3_sale 12 = .ok (.aload_n 0, 1) := by decide +kernel
theorem dX3_sale_13 : decode cX3_sale 13 = .ok (.aload_n 1, 1) := by decide +kernel
theorem dX3_sale_14 : decode cX3_sale 14 = .ok (.iload_n 3, 1) := by decide +kernel
theorem dX3_sale_15 : decode cX3_sale 15 = .ok (.invokevirtual 139, 3) := by decide +kernel
theorem dX3_sale_18 : decode cX3_sale 18 = .ok (.istore 4, 2) := by decide +kernel
theorem dX3_sale_20 : decode cX3_sale 20 = .ok (.aload_n 0, 1) := by decide +kernel
theorem dX3_sale_21 : decode cX3_sale 21 = .ok (.getfield 27, 3) := by decide +kernel
theorem dX3_sale_24 : decode cX3_sale 24 = .ok (.iload_n 2, 1) := by decide +kernel
theorem dX3_sale_25 : decode cX3_sale 25 = .ok (.dup2, 1) := by decide +kernel
theorem dX3_sale_26 : decode cX3_sale 26 = .ok (.iaload, 1) := by decide +kernel
theorem dX3_sale_27 : decode cX3_sale 27 = .ok (.iload 4, 2) := by decide +kernel
theorem dX3_sale_29 : decode cX3_sale 29 = .ok (.iadd, 1) := by decide +kernel
theorem dX3_sale_30 : decode cX3_sale 30 = .ok (.iastore, 1) := by decide +kernel
theorem dX3_sale_31 : decode cX3_sale 31 = .ok (.aload_n 0, 1) := by decide +kernel
theorem dX3_sale_32 : decode cX3_sale 32 = .ok (.getfield 24, 3) := by decide +kernel
theorem dX3_sale_35 : decode cX3_sale 35 = .ok (.iload_n 3, 1) := by decide +kernel
theorem dX3_sale_36 : decode cX3_sale 36 = .ok (.bipush 6, 2) := by decide +kernel
theorem dX3_sale_38 : decode cX3_sale 38 = .ok (.iastore, 1) := by decide +kernel
theorem dX3_sale_39 : decode cX3_sale 39 = .ok (.iload 4, 2) := by decide +kernel
theorem dX3_sale_41 : decode cX3_sale 41 = .ok (.ireturn, 1) := by decide +kernel
theorem dX3_setGuard_0 : decode cX3_setGuard 0 = .ok (.iload_n 1, 1) := by decide +kernel
theorem dX3_setGuard_1 : decode cX3_setGuard 1 = .ok (.ifCond .lt 20, 3) := by decide +kernel
theorem dX3_setGuard_4 : decode cX3_setGuard 4 = .ok (.iload_n 1, 1) := by decide +kernel
theorem dX3_setGuard_5 : decode cX3_setGuard 5 = .ok (.bipush 24, 2) := by decide +kernel
theorem dX3_setGuard_7 : decode cX3_setGuard 7 = .ok (.if_icmp .ge 14, 3) := by decide +kernel
theorem dX3_setGuard_10 : decode cX3_setGuard 10 = .ok (.aload_n 0, 1) := by decide +kernel
theorem dX3_setGuard_11 : decode cX3_setGuard 11 = .ok (.getfield 40, 3) := by decide +kernel
theorem dX3_setGuard_14 : decode cX3_setGuard 14 = .ok (.iload_n 1, 1) := by decide +kernel
theorem dX3_setGuard_15 : decode cX3_setGuard 15 = .ok (.ishr, 1) := by decide +kernel
theorem dX3_setGuard_16 : decode cX3_setGuard 16 = .ok (.iconst 1, 1) := by decide +kernel
theorem dX3_setGuard_17 : decode cX3_setGuard 17 = .ok (.iand, 1) := by decide +kernel
theorem dX3_setGuard_18 : decode cX3_setGuard 18 = .ok (.ifCond .eq 5, 3) := by decide +kernel
theorem dX3_setGuard_21 : decode cX3_setGuard 21 = .ok (.iconst 0, 1) := by decide +kernel
theorem dX3_setGuard_22 : decode cX3_setGuard 22 = .ok (.ireturn, 1) := by decide +kernel
theorem dX3_setGuard_23 : decode cX3_setGuard 23 = .ok (.aload_n 0, 1) := by decide +kernel
theorem dX3_setGuard_24 : decode cX3_setGuard 24 = .ok (.dup, 1) := by decide +kernel
theorem dX3_setGuard_25 : decode cX3_setGuard 25 = .ok (.getfield 40, 3) := by decide +kernel
theorem dX3_setGuard_28 : decode cX3_setGuard 28 = .ok (.iconst 1, 1) := by decide +kernel
theorem dX3_setGuard_29 : decode cX3_setGuard 29 = .ok (.iload_n 1, 1) := by decide +kernel
theorem dX3_setGuard_30 : decode cX3_setGuard 30 = .ok (.ishl, 1) := by decide +kernel
theorem dX3_setGuard_31 : decode cX3_setGuard 31 = .ok (.ior, 1) := by decide +kernel
theorem dX3_setGuard_32 : decode cX3_setGuard 32 = .ok (.putfield 40, 3) := by decide +kernel
theorem dX3_setGuard_35 : decode cX3_setGuard 35 = .ok (.iconst 1, 1) := by decide +kernel
theorem dX3_setGuard_36 : decode cX3_setGuard 36 = .ok (.ireturn, 1) := by decide +kernel
theorem dX3_passNight_0 : decode cX3_passNight 0 = .ok (.aload_n 0, 1) := by decide +kernel
theorem dX3_passNight_1 : decode cX3_passNight 1 = .ok (.getfield 21, 3) := by decide +kernel
theorem dX3_passNight_4 : decode cX3_passNight 4 = .ok (.aload_n 0, 1) := by decide +kernel
theorem dX3_passNight_5 : decode cX3_passNight 5 = .ok (.getfield 37, 3) := by decide +kernel
theorem dX3_passNight_8 : decode cX3_passNight 8 = .ok (.dup2, 1) := by decide +kernel
theorem dX3_passNight_9 : decode cX3_passNight 9 = .ok (.iaload, 1) := by decide +kernel
theorem dX3_passNight_10 : decode cX3_passNight 10 = .ok (.iconst 1, 1) := by decide +kernel
theorem dX3_passNight_11 : decode cX3_passNight 11 = .ok (.iadd, 1) := by decide +kernel
theorem dX3_passNight_12 : decode cX3_passNight 12 = .ok (.iastore, 1) := by decide +kernel
theorem dX3_passNight_13 : decode cX3_passNight 13 = .ok (.aload_n 0, 1) := by decide +kernel
theorem dX3_passNight_14 : decode cX3_passNight 14 = .ok (.iconst 0, 1) := by decide +kernel
theorem dX3_passNight_15 : decode cX3_passNight 15 = .ok (.putfield 40, 3) := by decide +kernel
theorem dX3_passNight_18 : decode cX3_passNight 18 = .ok (.aload_n 0, 1) := by decide +kernel
theorem dX3_passNight_19 : decode cX3_passNight 19 = .ok (.dup, 1) := by decide +kernel
theorem dX3_passNight_20 : decode cX3_passNight 20 = .ok (.getfield 30, 3) := by decide +kernel
theorem dX3_passNight_23 : decode cX3_passNight 23 = .ok (.iconst 1, 1) := by decide +kernel
theorem dX3_passNight_24 : decode cX3_passNight 24 = .ok (.iadd, 1) := by decide +kernel
theorem dX3_passNight_25 : decode cX3_passNight 25 = .ok (.putfield 30, 3) := by decide +kernel
theorem dX3_passNight_28 : decode cX3_passNight 28 = .ok (.return_, 1) := by decide +kernel
theorem dX4_init_0 : decode cX4_init 0 = .ok (.aload_n 0, 1) := by decide +kernel
theorem dX4_init_1 : decode cX4_init 1 = .ok (.invokespecial 1, 3) := by decide +kernel
theorem dX4_init_4 : decode cX4_init 4 = .ok (.aload_n 0, 1) := by decide +kernel
theorem dX4_init_5 : decode cX4_init 5 = .ok (.bipush 32, 2) := by decide +kernel
theorem dX4_init_7 : decode cX4_init 7 = .ok (.newarray .int, 2) := by decide +kernel
theorem dX4_init_9 : decode cX4_init 9 = .ok (.putfield 9, 3) := by decide +kernel
theorem dX4_init_12 : decode cX4_init 12 = .ok (.aload_n 0, 1) := by decide +kernel
theorem dX4_init_13 : decode cX4_init 13 = .ok (.aload_n 1, 1) := by decide +kernel
theorem dX4_init_14 : decode cX4_init 14 = .ok (.putfield 13, 3) := by decide +kernel
theorem dX4_init_17 : decode cX4_init 17 = .ok (.return_, 1) := by decide +kernel
theorem dX4_value_0 : decode cX4_value 0 = .ok (.iconst 0, 1) := by decide +kernel
theorem dX4_value_1 : decode cX4_value 1 = .ok (.istore 4, 2) := by decide +kernel
theorem dX4_value_3 : decode cX4_value 3 = .ok (.iconst 0, 1) := by decide +kernel
theorem dX4_value_4 : decode cX4_value 4 = .ok (.istore 5, 2) := by decide +kernel
theorem dX4_value_6 : decode cX4_value 6 = .ok (.iload 5, 2) := by decide +kernel
theorem dX4_value_8 : decode cX4_value 8 = .ok (.aload_n 0, 1) := by decide +kernel
theorem dX4_value_9 : decode cX4_value 9 = .ok (.getfield 13, 3) := by decide +kernel
theorem dX4_value_12 : decode cX4_value 12 = .ok (.arraylength, 1) := by decide +kernel
theorem dX4_value_13 : decode cX4_value 13 = .ok (.if_icmp .ge 141, 3) := by decide +kernel
theorem dX4_value_16 : decode cX4_value 16 = .ok (.aload_n 0, 1) := by decide +kernel
theorem dX4_value_17 : decode cX4_value 17 = .ok (.getfield 13, 3) := by decide +kernel
theorem dX4_value_20 : decode cX4_value 20 = .ok (.iload 5, 2) := by decide +kernel
theorem dX4_value_22 : decode cX4_value 22 = .ok (.iaload, 1) := by decide +kernel
theorem dX4_value_23 : decode cX4_value 23 = .ok (.istore 6, 2) := by decide +kernel
theorem dX4_value_25 : decode cX4_value 25 = .ok (.iload 6, 2) := by decide +kernel
theorem dX4_value_27 : decode cX4_value 27 = .ok (.bipush (-4), 2) := by decide +kernel
theorem dX4_value_29 : decode cX4_value 29 = .ok (.if_icmp .le 31, 3) := by decide +kernel
theorem dX4_value_32 : decode cX4_value 32 = .ok (.iload 4, 2) := by decide +kernel
theorem dX4_value_34 : decode cX4_value 34 = .ok (.bipush 32, 2) := by decide +kernel
theorem dX4_value_36 : decode cX4_value 36 = .ok (.if_icmp .ge 24, 3) := by decide +kernel
theorem dX4_value_39 : decode cX4_value 39 = .ok (.aload_n 0, 1) := by decide +kernel
theorem dX4_value_40 : decode cX4_value 40 = .ok (.getfield 9, 3) := by decide +kernel
theorem dX4_value_43 : decode cX4_value 43 = .ok (.iload 4, 2) := by decide +kernel
theorem dX4_value_45 : decode cX4_value 45 = .ok (.iload 6, 2) := by decide +kernel
theorem dX4_value_47 : decode cX4_value 47 = .ok (.iload_n 1, 1) := by decide +kernel
theorem dX4_value_48 : decode cX4_value 48 = .ok (.iload_n 2, 1) := by decide +kernel
theorem dX4_value_49 : decode cX4_value 49 = .ok (.iload_n 3, 1) := by decide +kernel
theorem dX4_value_50 : decode cX4_value 50 = .ok (.invokestatic 16, 3) := by decide +kernel
theorem dX4_value_53 : decode cX4_value 53 = .ok (.iastore, 1) := by decide +kernel
theorem dX4_value_54 : decode cX4_value 54 = .ok (.iinc 4 1, 3) := by decide +kernel
theorem dX4_value_57 : decode cX4_value 57 = .ok (.goto 91, 3) := by decide +kernel
theorem dX4_value_60 : decode cX4_value 60 = .ok (.iload 6, 2) := by decide +kernel
theorem dX4_value_62 : decode cX4_value 62 = .ok (.bipush (-4), 2) := by decide +kernel
theorem dX4_value_64 : decode cX4_value 64 = .ok (.if_icmp .ne 38, 3) := by decide +kernel
theorem dX4_value_67 : decode cX4_value 67 = .ok (.iload 4, 2) := by decide +kernel
theorem dX4_value_69 : decode cX4_value 69 = .ok (.iconst 1, 1) := by decide +kernel
theorem dX4_value_70 : decode cX4_value 70 = .ok (.if_icmp .lt 32, 3) := by decide +kernel
theorem dX4_value_73 : decode cX4_value 73 = .ok (.aload_n 0, 1) := by decide +kernel
theorem dX4_value_74 : decode cX4_value 74 = .ok (.getfield 9, 3) := by decide +kernel
theorem dX4_value_77 : decode cX4_value 77 = .ok (.iload 4, 2) := by decide +kernel
theorem dX4_value_79 : decode cX4_value 79 = .ok (.iconst 1, 1) := by decide +kernel
theorem dX4_value_80 : decode cX4_value 80 = .ok (.isub, 1) := by decide +kernel
theorem dX4_value_81 : decode cX4_value 81 = .ok (.aload_n 0, 1) := by decide +kernel
theorem dX4_value_82 : decode cX4_value 82 = .ok (.getfield 9, 3) := by decide +kernel
theorem dX4_value_85 : decode cX4_value 85 = .ok (.iload 4, 2) := by decide +kernel
theorem dX4_value_87 : decode cX4_value 87 = .ok (.iconst 1, 1) := by decide +kernel
theorem dX4_value_88 : decode cX4_value 88 = .ok (.isub, 1) := by decide +kernel
theorem dX4_value_89 : decode cX4_value 89 = .ok (.iaload, 1) := by decide +kernel
theorem dX4_value_90 : decode cX4_value 90 = .ok (.ifCond .ne 7, 3) := by decide +kernel
theorem dX4_value_93 : decode cX4_value 93 = .ok (.iconst 1, 1) := by decide +kernel
theorem dX4_value_94 : decode cX4_value 94 = .ok (.goto 4, 3) := by decide +kernel
theorem dX4_value_97 : decode cX4_value 97 = .ok (.iconst 0, 1) := by decide +kernel
theorem dX4_value_98 : decode cX4_value 98 = .ok (.iastore, 1) := by decide +kernel
theorem dX4_value_99 : decode cX4_value 99 = .ok (.goto 49, 3) := by decide +kernel
theorem dX4_value_102 : decode cX4_value 102 = .ok (.iload 6, 2) := by decide +kernel
theorem dX4_value_104 : decode cX4_value 104 = .ok (.bipush (-4), 2) := by decide +kernel
theorem dX4_value_106 : decode cX4_value 106 = .ok (.if_icmp .ge 42, 3) := by decide +kernel
theorem dX4_value_109 : decode cX4_value 109 = .ok (.iload 4, 2) := by decide +kernel
theorem dX4_value_111 : decode cX4_value 111 = .ok (.iconst 2, 1) := by decide +kernel
theorem dX4_value_112 : decode cX4_value 112 = .ok (.if_icmp .lt 36, 3) := by decide +kernel
theorem dX4_value_115 : decode cX4_value 115 = .ok (.iinc 4 (-1), 3) := by decide +kernel
theorem dX4_value_118 : decode cX4_value 118 = .ok (.aload_n 0, 1) := by decide +kernel
theorem dX4_value_119 : decode cX4_value 119 = .ok (.getfield 9, 3) := by decide +kernel
theorem dX4_value_122 : decode cX4_value 122 = .ok (.iload 4, 2) := by decide +kernel
theorem dX4_value_124 : decode cX4_value 124 = .ok (.iconst 1, 1) := by decide +kernel
theorem dX4_value_125 : decode cX4_value 125 = .ok (.isub, 1) := by decide +kernel
theorem dX4_value_126 : decode cX4_value 126 = .ok (.iload 6, 2) := by decide +kernel
theorem dX4_value_128 : decode cX4_value 128 = .ok (.aload_n 0, 1) := by decide +kernel
theorem dX4_value_129 : decode cX4_value 129 = .ok (.getfield 9, 3) := by decide +kernel
theorem dX4_value_132 : decode cX4_value 132 = .ok (.iload 4, 2) := by decide +kernel
theorem dX4_value_134 : decode cX4_value 134 = .ok (.iconst 1, 1) := by decide +kernel
theorem dX4_value_135 : decode cX4_value 135 = .ok (.isub, 1) := by decide +kernel
theorem dX4_value_136 : decode cX4_value 136 = .ok (.iaload, 1) := by decide +kernel
theorem dX4_value_137 : decode cX4_value 137 = .ok (.aload_n 0, 1) := by decide +kernel
theorem dX4_value_138 : decode cX4_value 138 = .ok (.getfield 9, 3) := by decide +kernel
theorem dX4_value_141 : decode cX4_value 141 = .ok (.iload 4, 2) := by decide +kernel
theorem dX4_value_143 : decode cX4_value 143 = .ok (.iaload, 1) := by decide +kernel
theorem dX4_value_144 : decode cX4_value 144 = .ok (.invokestatic 20, 3) := by decide +kernel
theorem dX4_value_147 : decode cX4_value 147 = .ok (.iastore, 1) := by decide +kernel
theorem dX4_value_148 : decode cX4_value 148 = .ok (.iinc 5 1, 3) := by decide +kernel
theorem dX4_value_151 : decode cX4_value 151 = .ok (.goto (-145), 3) := by decide +kernel
theorem dX4_value_154 : decode cX4_value 154 = .ok (.aload_n 0, 1) := by decide +kernel
theorem dX4_value_155 : decode cX4_value 155 = .ok (.getfield 9, 3) := by decide +kernel
theorem dX4_value_158 : decode cX4_value 158 = .ok (.iconst 0, 1) := by decide +kernel
theorem dX4_value_159 : decode cX4_value 159 = .ok (.iaload, 1) := by decide +kernel
theorem dX4_value_160 : decode cX4_value 160 = .ok (.ireturn, 1) := by decide +kernel
theorem dX4_operand_0 : decode cX4_operand 0 = .ok (.iload_n 0, 1) := by decide +kernel
theorem dX4_operand_1 : decode cX4_operand 1 = .ok (.tableswitch 33 (-3) (-1) #[31, 29, 27], 27) := by decide +kernel
theorem dX4_operand_28 : decode cX4_operand 28 = .ok (.iload_n 1, 1) := by decide +kernel
theorem dX4_operand_29 : decode cX4_operand 29 = .ok (.ireturn, 1) := by decide +kernel
theorem dX4_operand_30 : decode cX4_operand 30 = .ok (.iload_n 2, 1) := by decide +kernel
theorem dX4_operand_31 : decode cX4_operand 31 = .ok (.ireturn, 1) := by decide +kernel
theorem dX4_operand_32 : decode cX4_operand 32 = .ok (.iload_n 3, 1) := by decide +kernel
theorem dX4_operand_33 : decode cX4_operand 33 = .ok (.ireturn, 1) := by decide +kernel
theorem dX4_operand_34 : decode cX4_operand 34 = .ok (.iload_n 0, 1) := by decide +kernel
theorem dX4_operand_35 : decode cX4_operand 35 = .ok (.ireturn, 1) := by decide +kernel
theorem dX4_joinedBy_0 : decode cX4_joinedBy 0 = .ok (.iload_n 0, 1) := by decide +kernel
theorem dX4_joinedBy_1 : decode cX4_joinedBy 1 = .ok (.tableswitch 97 (-10) (-5) #[93, 89, 78, 67, 53, 39], 39) := by decide +kernel
theorem dX4_joinedBy_40 : decode cX4_joinedBy 40 = .ok (.iload_n 1, 1) := by decide +kernel
theorem dX4_joinedBy_41 : decode cX4_joinedBy 41 = .ok (.ifCond .eq 11, 3) := by decide +kernel
theorem dX4_joinedBy_44 : decode cX4_joinedBy 44 = .ok (.iload_n 2, 1) := by decide +kernel
theorem dX4_joinedBy_45 : decode cX4_joinedBy 45 = .ok (.ifCond .eq 7, 3) := by decide +kernel
theorem dX4_joinedBy_48 : decode cX4_joinedBy 48 = .ok (.iconst 1, 1) := by decide +kernel
theorem dX4_joinedBy_49 : decode cX4_joinedBy 49 = .ok (.goto 4, 3) := by decide +kernel
theorem dX4_joinedBy_52 : decode cX4_joinedBy 52 = .ok (.iconst 0, 1) := by decide +kernel
theorem dX4_joinedBy_53 : decode cX4_joinedBy 53 = .ok (.ireturn, 1) := by decide +kernel
theorem dX4_joinedBy_54 : decode cX4_joinedBy 54 = .ok (.iload_n 1, 1) := by decide +kernel
theorem dX4_joinedBy_55 : decode cX4_joinedBy 55 = .ok (.ifCond .ne 7, 3) := by decide +kernel
theorem dX4_joinedBy_58 : decode cX4_joinedBy 58 = .ok (.iload_n 2, 1) := by decide +kernel
theorem dX4_joinedBy_59 : decode cX4_joinedBy 59 = .ok (.ifCond .eq 7, 3) := by decide +kernel
theorem dX4_joinedBy_62 : decode cX4_joinedBy 62 = .ok (.iconst 1, 1) := by decide +kernel
theorem dX4_joinedBy_63 : decode cX4_joinedBy 63 = .ok (.goto 4, 3) := by decide +kernel
theorem dX4_joinedBy_66 : decode cX4_joinedBy 66 = .ok (.iconst 0, 1) := by decide +kernel
theorem dX4_joinedBy_67 : decode cX4_joinedBy 67 = .ok (.ireturn, 1) := by decide +kernel
theorem dX4_joinedBy_68 : decode cX4_joinedBy 68 = .ok (.iload_n 1, 1) := by decide +kernel
theorem dX4_joinedBy_69 : decode cX4_joinedBy 69 = .ok (.iload_n 2, 1) := by decide +kernel
theorem dX4_joinedBy_70 : decode cX4_joinedBy 70 = .ok (.if_icmp .ge 7, 3) := by decide +kernel
theorem dX4_joinedBy_73 : decode cX4_joinedBy 73 = .ok (.iconst 1, 1) := by decide +kernel
theorem dX4_joinedBy_74 : decode cX4_joinedBy 74 = .ok (.goto 4, 3) := by decide +kernel
theorem dX4_joinedBy_77 : decode cX4_joinedBy 77 = .ok (.iconst 0, 1) := by decide +kernel
theorem dX4_joinedBy_78 : decode cX4_joinedBy 78 = .ok (.ireturn, 1) := by decide +kernel
theorem dX4_joinedBy_79 : decode cX4_joinedBy 79 = .ok (.iload_n 1, 1) := by decide +kernel
theorem dX4_joinedBy_80 : decode cX4_joinedBy 80 = .ok (.iload_n 2, 1) := by decide +kernel
theorem dX4_joinedBy_81 : decode cX4_joinedBy 81 = .ok (.if_icmp .ne 7, 3) := by decide +kernel
theorem dX4_joinedBy_84 : decode cX4_joinedBy 84 = .ok (.iconst 1, 1) := by decide +kernel
theorem dX4_joinedBy_85 : decode cX4_joinedBy 85 = .ok (.goto 4, 3) := by decide +kernel
theorem dX4_joinedBy_88 : decode cX4_joinedBy 88 = .ok (.iconst 0, 1) := by decide +kernel
theorem dX4_joinedBy_89 : decode cX4_joinedBy 89 = .ok (.ireturn, 1) := by decide +kernel
theorem dX4_joinedBy_90 : decode cX4_joinedBy 90 = .ok (.iload_n 1, 1) := by decide +kernel
theorem dX4_joinedBy_91 : decode cX4_joinedBy 91 = .ok (.iload_n 2, 1) := by decide +kernel
theorem dX4_joinedBy_92 : decode cX4_joinedBy 92 = .ok (.iadd, 1) := by decide +kernel
theorem dX4_joinedBy_93 : decode cX4_joinedBy 93 = .ok (.ireturn, 1) := by decide +kernel
theorem dX4_joinedBy_94 : decode cX4_joinedBy 94 = .ok (.iload_n 1, 1) := by decide +kernel
theorem dX4_joinedBy_95 : decode cX4_joinedBy 95 = .ok (.iload_n 2, 1) := by decide +kernel
theorem dX4_joinedBy_96 : decode cX4_joinedBy 96 = .ok (.isub, 1) := by decide +kernel
theorem dX4_joinedBy_97 : decode cX4_joinedBy 97 = .ok (.ireturn, 1) := by decide +kernel
theorem dX4_joinedBy_98 : decode cX4_joinedBy 98 = .ok (.iload_n 1, 1) := by decide +kernel
theorem dX4_joinedBy_99 : decode cX4_joinedBy 99 = .ok (.iload_n 2, 1) := by decide +kernel
theorem dX4_joinedBy_100 : decode cX4_joinedBy 100 = .ok (.imul, 1) := by decide +kernel
theorem dX4_joinedBy_101 : decode cX4_joinedBy 101 = .ok (.ireturn, 1) := by decide +kernel
theorem dX5_init_0 : decode cX5_init 0 = .ok (.aload_n 0, 1) := by decide +kernel
theorem dX5_init_1 : decode cX5_init 1 = .ok (.invokespecial 3, 3) := by decide +kernel
theorem dX5_init_4 : decode cX5_init 4 = .ok (.aload_n 0, 1) := by decide +kernel
theorem dX5_init_5 : decode cX5_init 5 = .ok (.sipush 1000, 3) := by decide +kernel
theorem dX5_init_8 : decode cX5_init 8 = .ok (.newarray .int, 2) := by decide +kernel
theorem dX5_init_10 : decode cX5_init 10 = .ok (.putfield 9, 3) := by decide +kernel
theorem dX5_init_13 : decode cX5_init 13 = .ok (.aload_n 0, 1) := by decide +kernel
theorem dX5_init_14 : decode cX5_init 14 = .ok (.iconst 0, 1) := by decide +kernel
theorem dX5_init_15 : decode cX5_init 15 = .ok (.putfield 15, 3) := by decide +kernel
theorem dX5_init_18 : decode cX5_init 18 = .ok (.aload_n 0, 1) := by decide +kernel
theorem dX5_init_19 : decode cX5_init 19 = .ok (.getstatic 19, 3) := by decide +kernel
theorem dX5_init_22 : decode cX5_init 22 = .ok (.putfield 25, 3) := by decide +kernel
theorem dX5_init_25 : decode cX5_init 25 = .ok (.aload_n 0, 1) := by decide +kernel
theorem dX5_init_26 : decode cX5_init 26 = .ok (.aload_n 1, 1) := by decide +kernel
theorem dX5_init_27 : decode cX5_init 27 = .ok (.putfield 28, 3) := by decide +kernel
theorem dX5_init_30 : decode cX5_init 30 = .ok (.return_, 1) := by decide +kernel
theorem dX5_read_0 : decode cX5_read 0 = .ok (.aload_n 0, 1) := by decide +kernel
theorem dX5_read_1 : decode cX5_read 1 = .ok (.aload_n 1, 1) := by decide +kernel
theorem dX5_read_2 : decode cX5_read 2 = .ok (.putfield 25, 3) := by decide +kernel
theorem dX5_read_5 : decode cX5_read 5 = .ok (.aload_n 0, 1) := by decide +kernel
theorem dX5_read_6 : decode cX5_read 6 = .ok (.iconst 0, 1) := by decide +kernel
theorem dX5_read_7 : decode cX5_read 7 = .ok (.putfield 15, 3) := by decide +kernel
theorem dX5_read_10 : decode cX5_read 10 = .ok (.aload_n 0, 1) := by decide +kernel
theorem dX5_read_11 : decode cX5_read 11 = .ok (.iconst 0, 1) := by decide +kernel
theorem dX5_read_12 : decode cX5_read 12 = .ok (.invokevirtual 32, 3) := by decide +kernel
theorem dX5_read_15 : decode cX5_read 15 = .ok (.new 36, 3) := by decide +kernel
theorem dX5_read_18 : decode cX5_read 18 = .ok (.dup, 1) := by decide +kernel
theorem dX5_read_19 : decode cX5_read 19 = .ok (.aload_n 0, 1) := by decide +kernel
theorem dX5_read_20 : decode cX5_read 20 = .ok (.getfield 9, 3) := by decide +kernel
theorem dX5_read_23 : decode cX5_read 23 = .ok (.aload_n 0, 1) := by decide +kernel
theorem dX5_read_24 : decode cX5_read 24 = .ok (.getfield 15, 3) := by decide +kernel
theorem dX5_read_27 : decode cX5_read 27 = .ok (.invokestatic 38, 3) := by decide +kernel
theorem dX5_read_30 : decode cX5_read 30 = .ok (.invokespecial 44, 3) := by decide +kernel
theorem dX5_read_33 : decode cX5_read 33 = .ok (.areturn, 1) := by decide +kernel
theorem dX5_put_0 : decode cX5_put 0 = .ok (.aload_n 0, 1) := by decide +kernel
theorem dX5_put_1 : decode cX5_put 1 = .ok (.getfield 15, 3) := by decide +kernel
theorem dX5_put_4 : decode cX5_put 4 = .ok (.aload_n 0, 1) := by decide +kernel
theorem dX5_put_5 : decode cX5_put 5 = .ok (.getfield 9, 3) := by decide +kernel
theorem dX5_put_8 : decode cX5_put 8 = .ok (.arraylength, 1) := by decide +kernel
theorem dX5_put_9 : decode cX5_put 9 = .ok (.if_icmp .ge 23, 3) := by decide +kernel
theorem dX5_put_12 : decode cX5_put 12 = .ok (.aload_n 0, 1) := by decide +kernel
theorem dX5_put_13 : decode cX5_put 13 = .ok (.getfield 9, 3) := by decide +kernel
theorem dX5_put_16 : decode cX5_put 16 = .ok (.aload_n 0, 1) := by decide +kernel
theorem dX5_put_17 : decode cX5_put 17 = .ok (.getfield 15, 3) := by decide +kernel
theorem dX5_put_20 : decode cX5_put 20 = .ok (.iload_n 1, 1) := by decide +kernel
theorem dX5_put_21 : decode cX5_put 21 = .ok (.iastore, 1) := by decide +kernel
theorem dX5_put_22 : decode cX5_put 22 = .ok (.aload_n 0, 1) := by decide +kernel
theorem dX5_put_23 : decode cX5_put 23 = .ok (.dup, 1) := by decide +kernel
theorem dX5_put_24 : decode cX5_put 24 = .ok (.getfield 15, 3) := by decide +kernel
theorem dX5_put_27 : decode cX5_put 27 = .ok (.iconst 1, 1) := by decide +kernel
theorem dX5_put_28 : decode cX5_put 28 = .ok (.iadd, 1) := by decide +kernel
theorem dX5_put_29 : decode cX5_put 29 = .ok (.putfield 15, 3) := by decide +kernel
theorem dX5_put_32 : decode cX5_put 32 = .ok (.return_, 1) := by decide +kernel
theorem dX5_expression_0 : decode cX5_expression 0 = .ok (.aload_n 0, 1) := by decide +kernel
theorem dX5_expression_1 : decode cX5_expression 1 = .ok (.iload_n 1, 1) := by decide +kernel
theorem dX5_expression_2 : decode cX5_expression 2 = .ok (.invokevirtual 47, 3) := by decide +kernel
theorem dX5_expression_5 : decode cX5_expression 5 = .ok (.iconst 0, 1) := by decide +kernel
theorem dX5_expression_6 : decode cX5_expression 6 = .ok (.istore_n 2, 1) := by decide +kernel
theorem dX5_expression_7 : decode cX5_expression 7 = .ok (.iload_n 2, 1) := by decide +kernel
theorem dX5_expression_8 : decode cX5_expression 8 = .ok (.sipush 1000, 3) := by decide +kernel
theorem dX5_expression_11 : decode cX5_expression 11 = .ok (.if_icmp .ge 73, 3) := by decide +kernel
theorem dX5_expression_14 : decode cX5_expression 14 = .ok (.aload_n 0, 1) := by decide +kernel
theorem dX5_expression_15 : decode cX5_expression 15 = .ok (.getfield 28, 3) := by decide +kernel
theorem dX5_expression_18 : decode cX5_expression 18 = .ok (.getstatic 50, 3) := by decide +kernel
theorem dX5_expression_21 : decode cX5_expression 21 = .ok (.invokevirtual 53, 3) := by decide +kernel
theorem dX5_expression_24 : decode cX5_expression 24 = .ok (.ifCond .ne 16, 3) := by decide +kernel
theorem dX5_expression_27 : decode cX5_expression 27 = .ok (.aload_n 0, 1) := by decide +kernel
theorem dX5_expression_28 : decode cX5_expression 28 = .ok (.getfield 28, 3) := by decide +kernel
theorem dX5_expression_31 : decode cX5_expression 31 = .ok (.getstatic 59, 3) := by decide +kernel
theorem dX5_expression_34 : decode cX5_expression 34 = .ok (.invokevirtual 53, 3) := by decide +kernel
theorem dX5_expression_37 : decode cX5_expression 37 = .ok (.ifCond .eq 47, 3) := by decide +kernel
theorem dX5_expression_40 : decode cX5_expression 40 = .ok (.aload_n 0, 1) := by decide +kernel
theorem dX5_expression_41 : decode cX5_expression 41 = .ok (.getfield 28, 3) := by decide +kernel
theorem dX5_expression_44 : decode cX5_expression 44 = .ok (.getstatic 50, 3) := by decide +kernel
theorem dX5_expression_47 : decode cX5_expression 47 = .ok (.invokevirtual 53, 3) := by decide +kernel
theorem dX5_expression_50 : decode cX5_expression 50 = .ok (.ifCond .eq 8, 3) := by decide +kernel
theorem dX5_expression_53 : decode cX5_expression 53 = .ok (.bipush (-5), 2) := by decide +kernel
theorem dX5_expression_55 : decode cX5_expression 55 = .ok (.goto 5, 3) := by decide +kernel
theorem dX5_expression_58 : decode cX5_expression 58 = .ok (.bipush (-6), 2) := by decide +kernel
theorem dX5_expression_60 : decode cX5_expression 60 = .ok (.istore_n 3, 1) := by decide +kernel
theorem dX5_expression_61 : decode cX5_expression 61 = .ok (.aload_n 0, 1) := by decide +kernel
theorem dX5_expression_62 : decode cX5_expression 62 = .ok (.getfield 28, 3) := by decide +kernel
theorem dX5_expression_65 : decode cX5_expression 65 = .ok (.invokevirtual 62, 3) := by decide +kernel
theorem dX5_expression_68 : decode cX5_expression 68 = .ok (.aload_n 0, 1) := by decide +kernel
theorem dX5_expression_69 : decode cX5_expression 69 = .ok (.iload_n 1, 1) := by decide +kernel
theorem dX5_expression_70 : decode cX5_expression 70 = .ok (.invokevirtual 47, 3) := by decide +kernel
theorem dX5_expression_73 : decode cX5_expression 73 = .ok (.aload_n 0, 1) := by decide +kernel
theorem dX5_expression_74 : decode cX5_expression 74 = .ok (.iload_n 3, 1) := by decide +kernel
theorem dX5_expression_75 : decode cX5_expression 75 = .ok (.invokevirtual 65, 3) := by decide +kernel
theorem dX5_expression_78 : decode cX5_expression 78 = .ok (.iinc 2 1, 3) := by decide +kernel
theorem dX5_expression_81 : decode cX5_expression 81 = .ok (.goto (-74), 3) := by decide +kernel
theorem dX5_expression_84 : decode cX5_expression 84 = .ok (.return_, 1) := by decide +kernel
theorem dX5_test_0 : decode cX5_test 0 = .ok (.aload_n 0, 1) := by decide +kernel
theorem dX5_test_1 : decode cX5_test 1 = .ok (.iload_n 1, 1) := by decide +kernel
theorem dX5_test_2 : decode cX5_test 2 = .ok (.invokevirtual 68, 3) := by decide +kernel
theorem dX5_test_5 : decode cX5_test 5 = .ok (.aload_n 0, 1) := by decide +kernel
theorem dX5_test_6 : decode cX5_test 6 = .ok (.getfield 28, 3) := by decide +kernel
theorem dX5_test_9 : decode cX5_test 9 = .ok (.bipush 60, 2) := by decide +kernel
theorem dX5_test_11 : decode cX5_test 11 = .ok (.invokevirtual 71, 3) := by decide +kernel
theorem dX5_test_14 : decode cX5_test 14 = .ok (.ifCond .ne 15, 3) := by decide +kernel
theorem dX5_test_17 : decode cX5_test 17 = .ok (.aload_n 0, 1) := by decide +kernel
theorem dX5_test_18 : decode cX5_test 18 = .ok (.getfield 28, 3) := by decide +kernel
theorem dX5_test_21 : decode cX5_test 21 = .ok (.bipush 61, 2) := by decide +kernel
theorem dX5_test_23 : decode cX5_test 23 = .ok (.invokevirtual 71, 3) := by decide +kernel
theorem dX5_test_26 : decode cX5_test 26 = .ok (.ifCond .eq 40, 3) := by decide +kernel
theorem dX5_test_29 : decode cX5_test 29 = .ok (.aload_n 0, 1) := by decide +kernel
theorem dX5_test_30 : decode cX5_test 30 = .ok (.getfield 28, 3) := by decide +kernel
theorem dX5_test_33 : decode cX5_test 33 = .ok (.bipush 60, 2) := by decide +kernel
theorem dX5_test_35 : decode cX5_test 35 = .ok (.invokevirtual 71, 3) := by decide +kernel
theorem dX5_test_38 : decode cX5_test 38 = .ok (.ifCond .eq 8, 3) := by decide +kernel
theorem dX5_test_41 : decode cX5_test 41 = .ok (.bipush (-7), 2) := by decide +kernel
theorem dX5_test_43 : decode cX5_test 43 = .ok (.goto 5, 3) := by decide +kernel
theorem dX5_test_46 : decode cX5_test 46 = .ok (.bipush (-8), 2) := by decide +kernel
theorem dX5_test_48 : decode cX5_test 48 = .ok (.istore_n 2, 1) := by decide +kernel
theorem dX5_test_49 : decode cX5_test 49 = .ok (.aload_n 0, 1) := by decide +kernel
theorem dX5_test_50 : decode cX5_test 50 = .ok (.getfield 28, 3) := by decide +kernel
theorem dX5_test_53 : decode cX5_test 53 = .ok (.invokevirtual 62, 3) := by decide +kernel
theorem dX5_test_56 : decode cX5_test 56 = .ok (.aload_n 0, 1) := by decide +kernel
theorem dX5_test_57 : decode cX5_test 57 = .ok (.iload_n 1, 1) := by decide +kernel
theorem dX5_test_58 : decode cX5_test 58 = .ok (.invokevirtual 68, 3) := by decide +kernel
theorem dX5_test_61 : decode cX5_test 61 = .ok (.aload_n 0, 1) := by decide +kernel
theorem dX5_test_62 : decode cX5_test 62 = .ok (.iload_n 2, 1) := by decide +kernel
theorem dX5_test_63 : decode cX5_test 63 = .ok (.invokevirtual 65, 3) := by decide +kernel
theorem dX5_test_66 : decode cX5_test 66 = .ok (.return_, 1) := by decide +kernel
theorem dX5_sum_0 : decode cX5_sum 0 = .ok (.aload_n 0, 1) := by decide +kernel
theorem dX5_sum_1 : decode cX5_sum 1 = .ok (.iload_n 1, 1) := by decide +kernel
theorem dX5_sum_2 : decode cX5_sum 2 = .ok (.invokevirtual 74, 3) := by decide +kernel
theorem dX5_sum_5 : decode cX5_sum 5 = .ok (.iconst 0, 1) := by decide +kernel
theorem dX5_sum_6 : decode cX5_sum 6 = .ok (.istore_n 2, 1) := by decide +kernel
theorem dX5_sum_7 : decode cX5_sum 7 = .ok (.iload_n 2, 1) := by decide +kernel
theorem dX5_sum_8 : decode cX5_sum 8 = .ok (.sipush 1000, 3) := by decide +kernel
theorem dX5_sum_11 : decode cX5_sum 11 = .ok (.if_icmp .ge 70, 3) := by decide +kernel
theorem dX5_sum_14 : decode cX5_sum 14 = .ok (.aload_n 0, 1) := by decide +kernel
theorem dX5_sum_15 : decode cX5_sum 15 = .ok (.getfield 28, 3) := by decide +kernel
theorem dX5_sum_18 : decode cX5_sum 18 = .ok (.bipush 43, 2) := by decide +kernel
theorem dX5_sum_20 : decode cX5_sum 20 = .ok (.invokevirtual 71, 3) := by decide +kernel
theorem dX5_sum_23 : decode cX5_sum 23 = .ok (.ifCond .ne 15, 3) := by decide +kernel
theorem dX5_sum_26 : decode cX5_sum 26 = .ok (.aload_n 0, 1) := by decide +kernel
theorem dX5_sum_27 : decode cX5_sum 27 = .ok (.getfield 28, 3) := by decide +kernel
theorem dX5_sum_30 : decode cX5_sum 30 = .ok (.bipush 45, 2) := by decide +kernel
theorem dX5_sum_32 : decode cX5_sum 32 = .ok (.invokevirtual 71, 3) := by decide +kernel
theorem dX5_sum_35 : decode cX5_sum 35 = .ok (.ifCond .eq 46, 3) := by decide +kernel
theorem dX5_sum_38 : decode cX5_sum 38 = .ok (.aload_n 0, 1) := by decide +kernel
theorem dX5_sum_39 : decode cX5_sum 39 = .ok (.getfield 28, 3) := by decide +kernel
theorem dX5_sum_42 : decode cX5_sum 42 = .ok (.bipush 43, 2) := by decide +kernel
theorem dX5_sum_44 : decode cX5_sum 44 = .ok (.invokevirtual 71, 3) := by decide +kernel
theorem dX5_sum_47 : decode cX5_sum 47 = .ok (.ifCond .eq 8, 3) := by decide +kernel
theorem dX5_sum_50 : decode cX5_sum 50 = .ok (.bipush (-9), 2) := by decide +kernel
theorem dX5_sum_52 : decode cX5_sum 52 = .ok (.goto 5, 3) := by decide +kernel
theorem dX5_sum_55 : decode cX5_sum 55 = .ok (.bipush (-10), 2) := by decide +kernel
theorem dX5_sum_57 : decode cX5_sum 57 = .ok (.istore_n 3, 1) := by decide +kernel
theorem dX5_sum_58 : decode cX5_sum 58 = .ok (.aload_n 0, 1) := by decide +kernel
theorem dX5_sum_59 : decode cX5_sum 59 = .ok (.getfield 28, 3) := by decide +kernel
theorem dX5_sum_62 : decode cX5_sum 62 = .ok (.invokevirtual 62, 3) := by decide +kernel
theorem dX5_sum_65 : decode cX5_sum 65 = .ok (.aload_n 0, 1) := by decide +kernel
theorem dX5_sum_66 : decode cX5_sum 66 = .ok (.iload_n 1, 1) := by decide +kernel
theorem dX5_sum_67 : decode cX5_sum 67 = .ok (.invokevirtual 74, 3) := by decide +kernel
theorem dX5_sum_70 : decode cX5_sum 70 = .ok (.aload_n 0, 1) := by decide +kernel
theorem dX5_sum_71 : decode cX5_sum 71 = .ok (.iload_n 3, 1) := by decide +kernel
theorem dX5_sum_72 : decode cX5_sum 72 = .ok (.invokevirtual 65, 3) := by decide +kernel
theorem dX5_sum_75 : decode cX5_sum 75 = .ok (.iinc 2 1, 3) := by decide +kernel
theorem dX5_sum_78 : decode cX5_sum 78 = .ok (.goto (-71), 3) := by decide +kernel
theorem dX5_sum_81 : decode cX5_sum 81 = .ok (.return_, 1) := by decide +kernel
theorem dX5_product_0 : decode cX5_product 0 = .ok (.aload_n 0, 1) := by decide +kernel
theorem dX5_product_1 : decode cX5_product 1 = .ok (.iload_n 1, 1) := by decide +kernel
theorem dX5_product_2 : decode cX5_product 2 = .ok (.invokevirtual 77, 3) := by decide +kernel
theorem dX5_product_5 : decode cX5_product 5 = .ok (.iconst 0, 1) := by decide +kernel
theorem dX5_product_6 : decode cX5_product 6 = .ok (.istore_n 2, 1) := by decide +kernel
theorem dX5_product_7 : decode cX5_product 7 = .ok (.iload_n 2, 1) := by decide +kernel
theorem dX5_product_8 : decode cX5_product 8 = .ok (.sipush 1000, 3) := by decide +kernel
theorem dX5_product_11 : decode cX5_product 11 = .ok (.if_icmp .ge 39, 3) := by decide +kernel
theorem dX5_product_14 : decode cX5_product 14 = .ok (.aload_n 0, 1) := by decide +kernel
theorem dX5_product_15 : decode cX5_product 15 = .ok (.getfield 28, 3) := by decide +kernel
theorem dX5_product_18 : decode cX5_product 18 = .ok (.bipush 42, 2) := by decide +kernel
theorem dX5_product_20 : decode cX5_product 20 = .ok (.invokevirtual 71, 3) := by decide +kernel
theorem dX5_product_23 : decode cX5_product 23 = .ok (.ifCond .eq 27, 3) := by decide +kernel
theorem dX5_product_26 : decode cX5_product 26 = .ok (.aload_n 0, 1) := by decide +kernel
theorem dX5_product_27 : decode cX5_product 27 = .ok (.getfield 28, 3) := by decide +kernel
theorem dX5_product_30 : decode cX5_product 30 = .ok (.invokevirtual 62, 3) := by decide +kernel
theorem dX5_product_33 : decode cX5_product 33 = .ok (.aload_n 0, 1) := by decide +kernel
theorem dX5_product_34 : decode cX5_product 34 = .ok (.iload_n 1, 1) := by decide +kernel
theorem dX5_product_35 : decode cX5_product 35 = .ok (.invokevirtual 77, 3) := by decide +kernel
theorem dX5_product_38 : decode cX5_product 38 = .ok (.aload_n 0, 1) := by decide +kernel
theorem dX5_product_39 : decode cX5_product 39 = .ok (.bipush (-11), 2) := by decide +kernel
theorem dX5_product_41 : decode cX5_product 41 = .ok (.invokevirtual 65, 3) := by decide +kernel
theorem dX5_product_44 : decode cX5_product 44 = .ok (.iinc 2 1, 3) := by decide +kernel
theorem dX5_product_47 : decode cX5_product 47 = .ok (.goto (-40), 3) := by decide +kernel
theorem dX5_product_50 : decode cX5_product 50 = .ok (.return_, 1) := by decide +kernel
theorem dX5_part_0 : decode cX5_part 0 = .ok (.aload_n 0, 1) := by decide +kernel
theorem dX5_part_1 : decode cX5_part 1 = .ok (.getfield 28, 3) := by decide +kernel
theorem dX5_part_4 : decode cX5_part 4 = .ok (.bipush 40, 2) := by decide +kernel
theorem dX5_part_6 : decode cX5_part 6 = .ok (.invokevirtual 71, 3) := by decide +kernel
theorem dX5_part_9 : decode cX5_part 9 = .ok (.istore_n 2, 1) := by decide +kernel
theorem dX5_part_10 : decode cX5_part 10 = .ok (.aload_n 0, 1) := by decide +kernel
theorem dX5_part_11 : decode cX5_part 11 = .ok (.getfield 28, 3) := by decide +kernel
theorem dX5_part_14 : decode cX5_part 14 = .ok (.getstatic 80, 3) := by decide +kernel
theorem dX5_part_17 : decode cX5_part 17 = .ok (.invokevirtual 53, 3) := by decide +kernel
theorem dX5_part_20 : decode cX5_part 20 = .ok (.istore_n 3, 1) := by decide +kernel
theorem dX5_part_21 : decode cX5_part 21 = .ok (.iload_n 2, 1) := by decide +kernel
theorem dX5_part_22 : decode cX5_part 22 = .ok (.ifCond .ne 35, 3) := by decide +kernel
theorem dX5_part_25 : decode cX5_part 25 = .ok (.iload_n 3, 1) := by decide +kernel
theorem dX5_part_26 : decode cX5_part 26 = .ok (.ifCond .ne 31, 3) := by decide +kernel
theorem dX5_part_29 : decode cX5_part 29 = .ok (.aload_n 0, 1) := by decide +kernel
theorem dX5_part_30 : decode cX5_part 30 = .ok (.getfield 28, 3) := by decide +kernel
theorem dX5_part_33 : decode cX5_part 33 = .ok (.invokevirtual 83, 3) := by decide +kernel
theorem dX5_part_36 : decode cX5_part 36 = .ok (.ifCond .ne 21, 3) := by decide +kernel
theorem dX5_part_39 : decode cX5_part 39 = .ok (.aload_n 0, 1) := by decide +kernel
theorem dX5_part_40 : decode cX5_part 40 = .ok (.invokevirtual 87, 3) := by decide +kernel
theorem dX5_part_43 : decode cX5_part 43 = .ok (.ifCond .ne 14, 3) := by decide +kernel
theorem dX5_part_46 : decode cX5_part 46 = .ok (.aload_n 0, 1) := by decide +kernel
theorem dX5_part_47 : decode cX5_part 47 = .ok (.getfield 28, 3) := by decide +kernel
theorem dX5_part_50 : decode cX5_part 50 = .ok (.iconst 1, 1) := by decide +kernel
theorem dX5_part_51 : decode cX5_part 51 = .ok (.invokevirtual 90, 3) := by decide +kernel
theorem dX5_part_54 : decode cX5_part 54 = .ok (.goto 111, 3) := by decide +kernel
theorem dX5_part_57 : decode cX5_part 57 = .ok (.iload_n 1, 1) := by decide +kernel
theorem dX5_part_58 : decode cX5_part 58 = .ok (.iconst 5, 1) := by decide +kernel
theorem dX5_part_59 : decode cX5_part 59 = .ok (.if_icmp .lt 14, 3) := by decide +kernel
theorem dX5_part_62 : decode cX5_part 62 = .ok (.aload_n 0, 1) := by decide +kernel
theorem dX5_part_63 : decode cX5_part 63 = .ok (.getfield 28, 3) := by decide +kernel
theorem dX5_part_66 : decode cX5_part 66 = .ok (.iconst 5, 1) := by decide +kernel
theorem dX5_part_67 : decode cX5_part 67 = .ok (.invokevirtual 90, 3) := by decide +kernel
theorem dX5_part_70 : decode cX5_part 70 = .ok (.goto 95, 3) := by decide +kernel
theorem dX5_part_73 : decode cX5_part 73 = .ok (.iload_n 2, 1) := by decide +kernel
theorem dX5_part_74 : decode cX5_part 74 = .ok (.ifCond .eq 29, 3) := by decide +kernel
theorem dX5_part_77 : decode cX5_part 77 = .ok (.aload_n 0, 1) := by decide +kernel
theorem dX5_part_78 : decode cX5_part 78 = .ok (.getfield 28, 3) := by decide +kernel
theorem dX5_part_81 : decode cX5_part 81 = .ok (.invokevirtual 62, 3) := by decide +kernel
theorem dX5_part_84 : decode cX5_part 84 = .ok (.aload_n 0, 1) := by decide +kernel
theorem dX5_part_85 : decode cX5_part 85 = .ok (.iload_n 1, 1) := by decide +kernel
theorem dX5_part_86 : decode cX5_part 86 = .ok (.iconst 1, 1) := by decide +kernel
theorem dX5_part_87 : decode cX5_part 87 = .ok (.iadd, 1) := by decide +kernel
theorem dX5_part_88 : decode cX5_part 88 = .ok (.invokevirtual 32, 3) := by decide +kernel
theorem dX5_part_91 : decode cX5_part 91 = .ok (.aload_n 0, 1) := by decide +kernel
theorem dX5_part_92 : decode cX5_part 92 = .ok (.getfield 28, 3) := by decide +kernel
theorem dX5_part_95 : decode cX5_part 95 = .ok (.bipush 41, 2) := by decide +kernel
theorem dX5_part_97 : decode cX5_part 97 = .ok (.invokevirtual 93, 3) := by decide +kernel
theorem dX5_part_100 : decode cX5_part 100 = .ok (.goto 65, 3) := by decide +kernel
theorem dX5_part_103 : decode cX5_part 103 = .ok (.iload_n 3, 1) := by decide +kernel
theorem dX5_part_104 : decode cX5_part 104 = .ok (.ifCond .eq 26, 3) := by decide +kernel
theorem dX5_part_107 : decode cX5_part 107 = .ok (.aload_n 0, 1) := by decide +kernel
theorem dX5_part_108 : decode cX5_part 108 = .ok (.getfield 28, 3) := by decide +kernel
theorem dX5_part_111 : decode cX5_part 111 = .ok (.invokevirtual 62, 3) := by decide +kernel
theorem dX5_part_114 : decode cX5_part 114 = .ok (.aload_n 0, 1) := by decide +kernel
theorem dX5_part_115 : decode cX5_part 115 = .ok (.iload_n 1, 1) := by decide +kernel
theorem dX5_part_116 : decode cX5_part 116 = .ok (.iconst 1, 1) := by decide +kernel
theorem dX5_part_117 : decode cX5_part 117 = .ok (.iadd, 1) := by decide +kernel
theorem dX5_part_118 : decode cX5_part 118 = .ok (.invokevirtual 77, 3) := by decide +kernel
theorem dX5_part_121 : decode cX5_part 121 = .ok (.aload_n 0, 1) := by decide +kernel
theorem dX5_part_122 : decode cX5_part 122 = .ok (.bipush (-4), 2) := by decide +kernel
theorem dX5_part_124 : decode cX5_part 124 = .ok (.invokevirtual 65, 3) := by decide +kernel
theorem dX5_part_127 : decode cX5_part 127 = .ok (.goto 38, 3) := by decide +kernel
theorem dX5_part_130 : decode cX5_part 130 = .ok (.aload_n 0, 1) := by decide +kernel
theorem dX5_part_131 : decode cX5_part 131 = .ok (.aload_n 0, 1) := by decide +kernel
theorem dX5_part_132 : decode cX5_part 132 = .ok (.getfield 28, 3) := by decide +kernel
theorem dX5_part_135 : decode cX5_part 135 = .ok (.invokevirtual 83, 3) := by decide +kernel
theorem dX5_part_138 : decode cX5_part 138 = .ok (.ifCond .eq 13, 3) := by decide +kernel
theorem dX5_part_141 : decode cX5_part 141 = .ok (.aload_n 0, 1) := by decide +kernel
theorem dX5_part_142 : decode cX5_part 142 = .ok (.getfield 28, 3) := by decide +kernel
theorem dX5_part_145 : decode cX5_part 145 = .ok (.invokevirtual 97, 3) := by decide +kernel
theorem dX5_part_148 : decode cX5_part 148 = .ok (.goto 7, 3) := by decide +kernel
theorem dX5_part_151 : decode cX5_part 151 = .ok (.aload_n 0, 1) := by decide +kernel
theorem dX5_part_152 : decode cX5_part 152 = .ok (.invokevirtual 101, 3) := by decide +kernel
theorem dX5_part_155 : decode cX5_part 155 = .ok (.invokevirtual 65, 3) := by decide +kernel
theorem dX5_part_158 : decode cX5_part 158 = .ok (.aload_n 0, 1) := by decide +kernel
theorem dX5_part_159 : decode cX5_part 159 = .ok (.getfield 28, 3) := by decide +kernel
theorem dX5_part_162 : decode cX5_part 162 = .ok (.invokevirtual 62, 3) := by decide +kernel
theorem dX5_part_165 : decode cX5_part 165 = .ok (.return_, 1) := by decide +kernel
theorem dX5_isFact_0 : decode cX5_isFact 0 = .ok (.aload_n 0, 1) := by decide +kernel
theorem dX5_isFact_1 : decode cX5_isFact 1 = .ok (.getfield 28, 3) := by decide +kernel
theorem dX5_isFact_4 : decode cX5_isFact 4 = .ok (.getstatic 104, 3) := by decide +kernel
theorem dX5_isFact_7 : decode cX5_isFact 7 = .ok (.invokevirtual 53, 3) := by decide +kernel
theorem dX5_isFact_10 : decode cX5_isFact 10 = .ok (.ifCond .ne 30, 3) := by decide +kernel
theorem dX5_isFact_13 : decode cX5_isFact 13 = .ok (.aload_n 0, 1) := by decide +kernel
theorem dX5_isFact_14 : decode cX5_isFact 14 = .ok (.getfield 28, 3) := by decide +kernel
theorem dX5_isFact_17 : decode cX5_isFact 17 = .ok (.getstatic 107, 3) := by decide +kernel
theorem dX5_isFact_20 : decode cX5_isFact 20 = .ok (.invokevirtual 53, 3) := by decide +kernel
theorem dX5_isFact_23 : decode cX5_isFact 23 = .ok (.ifCond .ne 17, 3) := by decide +kernel
theorem dX5_isFact_26 : decode cX5_isFact 26 = .ok (.aload_n 0, 1) := by decide +kernel
theorem dX5_isFact_27 : decode cX5_isFact 27 = .ok (.getfield 28, 3) := by decide +kernel
theorem dX5_isFact_30 : decode cX5_isFact 30 = .ok (.aload_n 0, 1) := by decide +kernel
theorem dX5_isFact_31 : decode cX5_isFact 31 = .ok (.getfield 25, 3) := by decide +kernel
theorem dX5_isFact_34 : decode cX5_isFact 34 = .ok (.invokevirtual 53, 3) := by decide +kernel
theorem dX5_isFact_37 : decode cX5_isFact 37 = .ok (.ifCond .eq 7, 3) := by decide +kernel
theorem dX5_isFact_40 : decode cX5_isFact 40 = .ok (.iconst 1, 1) := by decide +kernel
theorem dX5_isFact_41 : decode cX5_isFact 41 = .ok (.goto 4, 3) := by decide +kernel
theorem dX5_isFact_44 : decode cX5_isFact 44 = .ok (.iconst 0, 1) := by decide +kernel
theorem dX5_isFact_45 : decode cX5_isFact 45 = .ok (.ireturn, 1) := by decide +kernel
theorem dX5_factStep_0 : decode cX5_factStep 0 = .ok (.aload_n 0, 1) := by decide +kernel
theorem dX5_factStep_1 : decode cX5_factStep 1 = .ok (.getfield 28, 3) := by decide +kernel
theorem dX5_factStep_4 : decode cX5_factStep 4 = .ok (.getstatic 104, 3) := by decide +kernel
theorem dX5_factStep_7 : decode cX5_factStep 7 = .ok (.invokevirtual 53, 3) := by decide +kernel
theorem dX5_factStep_10 : decode cX5_factStep 10 = .ok (.ifCond .eq 5, 3) := by decide +kernel
theorem dX5_factStep_13 : decode cX5_factStep 13 = .ok (.iconst (-1), 1) := by decide +kernel
theorem dX5_factStep_14 : decode cX5_factStep 14 = .ok (.ireturn, 1) := by decide +kernel
theorem dX5_factStep_15 : decode cX5_factStep 15 = .ok (.aload_n 0, 1) := by decide +kernel
theorem dX5_factStep_16 : decode cX5_factStep 16 = .ok (.getfield 28, 3) := by decide +kernel
theorem dX5_factStep_19 : decode cX5_factStep 19 = .ok (.getstatic 107, 3) := by decide +kernel
theorem dX5_factStep_22 : decode cX5_factStep 22 = .ok (.invokevirtual 53, 3) := by decide +kernel
theorem dX5_factStep_25 : decode cX5_factStep 25 = .ok (.ifCond .eq 8, 3) := by decide +kernel
theorem dX5_factStep_28 : decode cX5_factStep 28 = .ok (.bipush (-2), 2) := by decide +kernel
theorem dX5_factStep_30 : decode cX5_factStep 30 = .ok (.goto 5, 3) := by decide +kernel
theorem dX5_factStep_33 : decode cX5_factStep 33 = .ok (.bipush (-3), 2) := by decide +kernel
theorem dX5_factStep_35 : decode cX5_factStep 35 = .ok (.ireturn, 1) := by decide +kernel
theorem dX6_init_0 : decode cX6_init 0 = .ok (.aload_n 0, 1) := by decide +kernel
theorem dX6_init_1 : decode cX6_init 1 = .ok (.invokespecial 3, 3) := by decide +kernel
theorem dX6_init_4 : decode cX6_init 4 = .ok (.aload_n 0, 1) := by decide +kernel
theorem dX6_init_5 : decode cX6_init 5 = .ok (.bipush 30, 2) := by decide +kernel
theorem dX6_init_7 : decode cX6_init 7 = .ok (.newarray .int, 2) := by decide +kernel
theorem dX6_init_9 : decode cX6_init 9 = .ok (.putfield 9, 3) := by decide +kernel
theorem dX6_init_12 : decode cX6_init 12 = .ok (.aload_n 0, 1) := by decide +kernel
theorem dX6_init_13 : decode cX6_init 13 = .ok (.bipush 30, 2) := by decide +kernel
theorem dX6_init_15 : decode cX6_init 15 = .ok (.newarray .int, 2) := by decide +kernel
theorem dX6_init_17 : decode cX6_init 17 = .ok (.putfield 15, 3) := by decide +kernel
theorem dX6_init_20 : decode cX6_init 20 = .ok (.aload_n 0, 1) := by decide +kernel
theorem dX6_init_21 : decode cX6_init 21 = .ok (.bipush 30, 2) := by decide +kernel
theorem dX6_init_23 : decode cX6_init 23 = .ok (.newarray .int, 2) := by decide +kernel
theorem dX6_init_25 : decode cX6_init 25 = .ok (.putfield 18, 3) := by decide +kernel
theorem dX6_init_28 : decode cX6_init 28 = .ok (.aload_n 0, 1) := by decide +kernel
theorem dX6_init_29 : decode cX6_init 29 = .ok (.bipush 30, 2) := by decide +kernel
theorem dX6_init_31 : decode cX6_init 31 = .ok (.newarray .int, 2) := by decide +kernel
theorem dX6_init_33 : decode cX6_init 33 = .ok (.putfield 21, 3) := by decide +kernel
theorem dX6_init_36 : decode cX6_init 36 = .ok (.aload_n 0, 1) := by decide +kernel
theorem dX6_init_37 : decode cX6_init 37 = .ok (.iconst 0, 1) := by decide +kernel
theorem dX6_init_38 : decode cX6_init 38 = .ok (.putfield 24, 3) := by decide +kernel
theorem dX6_init_41 : decode cX6_init 41 = .ok (.return_, 1) := by decide +kernel
theorem dX6_read_0 : decode cX6_read 0 = .ok (.aload_n 0, 1) := by decide +kernel
theorem dX6_read_1 : decode cX6_read 1 = .ok (.iconst 0, 1) := by decide +kernel
theorem dX6_read_2 : decode cX6_read 2 = .ok (.putfield 24, 3) := by decide +kernel
theorem dX6_read_5 : decode cX6_read 5 = .ok (.aload_n 1, 1) := by decide +kernel
theorem dX6_read_6 : decode cX6_read 6 = .ok (.invokevirtual 28, 3) := by decide +kernel
theorem dX6_read_9 : decode cX6_read 9 = .ok (.iconst 0, 1) := by decide +kernel
theorem dX6_read_10 : decode cX6_read 10 = .ok (.istore_n 3, 1) := by decide +kernel
theorem dX6_read_11 : decode cX6_read 11 = .ok (.iload_n 3, 1) := by decide +kernel
theorem dX6_read_12 : decode cX6_read 12 = .ok (.bipush 30, 2) := by decide +kernel
theorem dX6_read_14 : decode cX6_read 14 = .ok (.if_icmp .gt 22, 3) := by decide +kernel
theorem dX6_read_17 : decode cX6_read 17 = .ok (.aload_n 1, 1) := by decide +kernel
theorem dX6_read_18 : decode cX6_read 18 = .ok (.invokevirtual 33, 3) := by decide +kernel
theorem dX6_read_21 : decode cX6_read 21 = .ok (.ifCond .eq 15, 3) := by decide +kernel
theorem dX6_read_24 : decode cX6_read 24 = .ok (.aload_n 0, 1) := by decide +kernel
theorem dX6_read_25 : decode cX6_read 25 = .ok (.aload_n 1, 1) := by decide +kernel
theorem dX6_read_26 : decode cX6_read 26 = .ok (.aload_n 2, 1) := by decide +kernel
theorem dX6_read_27 : decode cX6_read 27 = .ok (.invokevirtual 37, 3) := by decide +kernel
theorem dX6_read_30 : decode cX6_read 30 = .ok (.iinc 3 1, 3) := by decide +kernel
theorem dX6_read_33 : decode cX6_read 33 = .ok (.goto (-22), 3) := by decide +kernel
theorem dX6_read_36 : decode cX6_read 36 = .ok (.aload_n 1, 1) := by decide +kernel
theorem dX6_read_37 : decode cX6_read 37 = .ok (.invokevirtual 41, 3) := by decide +kernel
theorem dX6_read_40 : decode cX6_read 40 = .ok (.ireturn, 1) := by decide +kernel
theorem dX6_readLine_0 : decode cX6_readLine 0 = .ok (.aload_n 1, 1) := by decide +kernel
theorem dX6_readLine_1 : decode cX6_readLine 1 = .ok (.invokevirtual 45, 3) := by decide +kernel
theorem dX6_readLine_4 : decode cX6_readLine 4 = .ok (.invokestatic 49, 3) := by decide +kernel
theorem dX6_readLine_7 : decode cX6_readLine 7 = .ok (.istore_n 3, 1) := by decide +kernel
theorem dX6_readLine_8 : decode cX6_readLine 8 = .ok (.iload_n 3, 1) := by decide +kernel
theorem dX6_readLine_9 : decode cX6_readLine 9 = .ok (.iconst (-1), 1) := by decide +kernel
theorem dX6_readLine_10 : decode cX6_readLine 10 = .ok (.if_icmp .ne 11, 3) := by decide +kernel
theorem dX6_readLine_13 : decode cX6_readLine 13 = .ok (.aload_n 1, 1) := by decide +kernel
theorem dX6_readLine_14 : decode cX6_readLine 14 = .ok (.iconst 1, 1) := by decide +kernel
theorem dX6_readLine_15 : decode cX6_readLine 15 = .ok (.invokevirtual 53, 3) := by decide +kernel
theorem dX6_readLine_18 : decode cX6_readLine 18 = .ok (.goto 57, 3) := by decide +kernel
theorem dX6_readLine_21 : decode cX6_readLine 21 = .ok (.aload_n 0, 1) := by decide +kernel
theorem dX6_readLine_22 : decode cX6_readLine 22 = .ok (.getfield 24, 3) := by decide +kernel
theorem dX6_readLine_25 : decode cX6_readLine 25 = .ok (.bipush 30, 2) := by decide +kernel
theorem dX6_readLine_27 : decode cX6_readLine 27 = .ok (.if_icmp .lt 11, 3) := by decide +kernel
theorem dX6_readLine_30 : decode cX6_readLine 30 = .ok (.aload_n 1, 1) := by decide +kernel
theorem dX6_readLine_31 : decode cX6_readLine 31 = .ok (.iconst 5, 1) := by decide +kernel
theorem dX6_readLine_32 : decode cX6_readLine 32 = .ok (.invokevirtual 53, 3) := by decide +kernel
theorem dX6_readLine_35 : decode cX6_readLine 35 = .ok (.goto 40, 3) := by decide +kernel
theorem dX6_readLine_38 : decode cX6_readLine 38 = .ok (.aload_n 1, 1) := by decide +kernel
theorem dX6_readLine_39 : decode cX6_readLine 39 = .ok (.invokevirtual 57, 3) := by decide +kernel
theorem dX6_readLine_42 : decode cX6_readLine 42 = .ok (.aload_n 0, 1) := by decide +kernel
theorem dX6_readLine_43 : decode cX6_readLine 43 = .ok (.getfield 9, 3) := by decide +kernel
theorem dX6_readLine_46 : decode cX6_readLine 46 = .ok (.aload_n 0, 1) := by decide +kernel
theorem dX6_readLine_47 : decode cX6_readLine 47 = .ok (.getfield 24, 3) := by decide +kernel
theorem dX6_readLine_50 : decode cX6_readLine 50 = .ok (.iload_n 3, 1) := by decide +kernel
theorem dX6_readLine_51 : decode cX6_readLine 51 = .ok (.iastore, 1) := by decide +kernel
theorem dX6_readLine_52 : decode cX6_readLine 52 = .ok (.aload_n 0, 1) := by decide +kernel
theorem dX6_readLine_53 : decode cX6_readLine 53 = .ok (.aload_n 1, 1) := by decide +kernel
theorem dX6_readLine_54 : decode cX6_readLine 54 = .ok (.aload_n 2, 1) := by decide +kernel
theorem dX6_readLine_55 : decode cX6_readLine 55 = .ok (.iload_n 3, 1) := by decide +kernel
theorem dX6_readLine_56 : decode cX6_readLine 56 = .ok (.invokevirtual 60, 3) := by decide +kernel
theorem dX6_readLine_59 : decode cX6_readLine 59 = .ok (.aload_n 1, 1) := by decide +kernel
theorem dX6_readLine_60 : decode cX6_readLine 60 = .ok (.bipush 59, 2) := by decide +kernel
theorem dX6_readLine_62 : decode cX6_readLine 62 = .ok (.invokevirtual 64, 3) := by decide +kernel
theorem dX6_readLine_65 : decode cX6_readLine 65 = .ok (.aload_n 0, 1) := by decide +kernel
theorem dX6_readLine_66 : decode cX6_readLine 66 = .ok (.dup, 1) := by decide +kernel
theorem dX6_readLine_67 : decode cX6_readLine 67 = .ok (.getfield 24, 3) := by decide +kernel
theorem dX6_readLine_70 : decode cX6_readLine 70 = .ok (.iconst 1, 1) := by decide +kernel
theorem dX6_readLine_71 : decode cX6_readLine 71 = .ok (.iadd, 1) := by decide +kernel
theorem dX6_readLine_72 : decode cX6_readLine 72 = .ok (.putfield 24, 3) := by decide +kernel
theorem dX6_readLine_75 : decode cX6_readLine 75 = .ok (.return_, 1) := by decide +kernel
theorem dX6_verbOf_0 : decode cX6_verbOf 0 = .ok (.getstatic 68, 3) := by decide +kernel
theorem dX6_verbOf_3 : decode cX6_verbOf 3 = .ok (.aload_n 0, 1) := by decide +kernel
theorem dX6_verbOf_4 : decode cX6_verbOf 4 = .ok (.invokevirtual 73, 3) := by decide +kernel
theorem dX6_verbOf_7 : decode cX6_verbOf 7 = .ok (.iaload, 1) := by decide +kernel
theorem dX6_verbOf_8 : decode cX6_verbOf 8 = .ok (.tableswitch 46 11 15 #[36, 38, 40, 42, 44], 36) := by decide +kernel
theorem dX6_verbOf_44 : decode cX6_verbOf 44 = .ok (.iconst 0, 1) := by decide +kernel
theorem dX6_verbOf_45 : decode cX6_verbOf 45 = .ok (.ireturn, 1) := by decide +kernel
theorem dX6_verbOf_46 : decode cX6_verbOf 46 = .ok (.iconst 1, 1) := by decide +kernel
theorem dX6_verbOf_47 : decode cX6_verbOf 47 = .ok (.ireturn, 1) := by decide +kernel
theorem dX6_verbOf_48 : decode cX6_verbOf 48 = .ok (.iconst 2, 1) := by decide +kernel
theorem dX6_verbOf_49 : decode cX6_verbOf 49 = .ok (.ireturn, 1) := by decide +kernel
theorem dX6_verbOf_50 : decode cX6_verbOf 50 = .ok (.iconst 3, 1) := by decide +kernel
theorem dX6_verbOf_51 : decode cX6_verbOf 51 = .ok (.ireturn, 1) := by decide +kernel
theorem dX6_verbOf_52 : decode cX6_verbOf 52 = .ok (.iconst 4, 1) := by decide +kernel
theorem dX6_verbOf_53 : decode cX6_verbOf 53 = .ok (.ireturn, 1) := by decide +kernel
theorem dX6_verbOf_54 : decode cX6_verbOf 54 = .ok (.iconst (-1), 1) := by decide +kernel
theorem dX6_verbOf_55 : decode cX6_verbOf 55 = .ok (.ireturn, 1) := by decide +kernel
theorem dX6_readRest_0 : decode cX6_readRest 0 = .ok (.iload_n 3, 1) := by decide +kernel
theorem dX6_readRest_1 : decode cX6_readRest 1 = .ok (.iconst 3, 1) := by decide +kernel
theorem dX6_readRest_2 : decode cX6_readRest 2 = .ok (.if_icmp .ne 21, 3) := by decide +kernel
theorem dX6_readRest_5 : decode cX6_readRest 5 = .ok (.aload_n 0, 1) := by decide +kernel
theorem dX6_readRest_6 : decode cX6_readRest 6 = .ok (.getfield 18, 3) := by decide +kernel
theorem dX6_readRest_9 : decode cX6_readRest 9 = .ok (.aload_n 0, 1) := by decide +kernel
theorem dX6_readRest_10 : decode cX6_readRest 10 = .ok (.getfield 24, 3) := by decide +kernel
theorem dX6_readRest_13 : decode cX6_readRest 13 = .ok (.aload_n 1, 1) := by decide +kernel
theorem dX6_readRest_14 : decode cX6_readRest 14 = .ok (.bipush 24, 2) := by decide +kernel
theorem dX6_readRest_16 : decode cX6_readRest 16 = .ok (.invokevirtual 78, 3) := by decide +kernel
theorem dX6_readRest_19 : decode cX6_readRest 19 = .ok (.iastore, 1) := by decide +kernel
theorem dX6_readRest_20 : decode cX6_readRest 20 = .ok (.goto 37, 3) := by decide +kernel
theorem dX6_readRest_23 : decode cX6_readRest 23 = .ok (.iload_n 3, 1) := by decide +kernel
theorem dX6_readRest_24 : decode cX6_readRest 24 = .ok (.iconst 4, 1) := by decide +kernel
theorem dX6_readRest_25 : decode cX6_readRest 25 = .ok (.if_icmp .eq 32, 3) := by decide +kernel
theorem dX6_readRest_28 : decode cX6_readRest 28 = .ok (.aload_n 0, 1) := by decide +kernel
theorem dX6_readRest_29 : decode cX6_readRest 29 = .ok (.getfield 15, 3) := by decide +kernel
theorem dX6_readRest_32 : decode cX6_readRest 32 = .ok (.aload_n 0, 1) := by decide +kernel
theorem dX6_readRest_33 : decode cX6_readRest 33 = .ok (.getfield 24, 3) := by decide +kernel
theorem dX6_readRest_36 : decode cX6_readRest 36 = .ok (.aload_n 2, 1) := by decide +kernel
theorem dX6_readRest_37 : decode cX6_readRest 37 = .ok (.aload_n 1, 1) := by decide +kernel
theorem dX6_readRest_38 : decode cX6_readRest 38 = .ok (.invokevirtual 82, 3) := by decide +kernel
theorem dX6_readRest_41 : decode cX6_readRest 41 = .ok (.iastore, 1) := by decide +kernel
theorem dX6_readRest_42 : decode cX6_readRest 42 = .ok (.aload_n 0, 1) := by decide +kernel
theorem dX6_readRest_43 : decode cX6_readRest 43 = .ok (.getfield 18, 3) := by decide +kernel
theorem dX6_readRest_46 : decode cX6_readRest 46 = .ok (.aload_n 0, 1) := by decide +kernel
theorem dX6_readRest_47 : decode cX6_readRest 47 = .ok (.getfield 24, 3) := by decide +kernel
theorem dX6_readRest_50 : decode cX6_readRest 50 = .ok (.aload_n 1, 1) := by decide +kernel
theorem dX6_readRest_51 : decode cX6_readRest 51 = .ok (.bipush 8, 2) := by decide +kernel
theorem dX6_readRest_53 : decode cX6_readRest 53 = .ok (.invokevirtual 78, 3) := by decide +kernel
theorem dX6_readRest_56 : decode cX6_readRest 56 = .ok (.iastore, 1) := by decide +kernel
theorem dX6_readRest_57 : decode cX6_readRest 57 = .ok (.iload_n 3, 1) := by decide +kernel
theorem dX6_readRest_58 : decode cX6_readRest 58 = .ok (.iconst 1, 1) := by decide +kernel
theorem dX6_readRest_59 : decode cX6_readRest 59 = .ok (.if_icmp .ne 21, 3) := by decide +kernel
theorem dX6_readRest_62 : decode cX6_readRest 62 = .ok (.aload_n 0, 1) := by decide +kernel
theorem dX6_readRest_63 : decode cX6_readRest 63 = .ok (.getfield 21, 3) := by decide +kernel
theorem dX6_readRest_66 : decode cX6_readRest 66 = .ok (.aload_n 0, 1) := by decide +kernel
theorem dX6_readRest_67 : decode cX6_readRest 67 = .ok (.getfield 24, 3) := by decide +kernel
theorem dX6_readRest_70 : decode cX6_readRest 70 = .ok (.aload_n 2, 1) := by decide +kernel
theorem dX6_readRest_71 : decode cX6_readRest 71 = .ok (.aload_n 1, 1) := by decide +kernel
theorem dX6_readRest_72 : decode cX6_readRest 72 = .ok (.invokevirtual 88, 3) := by decide +kernel
theorem dX6_readRest_75 : decode cX6_readRest 75 = .ok (.iastore, 1) := by decide +kernel
theorem dX6_readRest_76 : decode cX6_readRest 76 = .ok (.aload_n 1, 1) := by decide +kernel
theorem dX6_readRest_77 : decode cX6_readRest 77 = .ok (.invokevirtual 57, 3) := by decide +kernel
theorem dX6_readRest_80 : decode cX6_readRest 80 = .ok (.return_, 1) := by decide +kernel
theorem dX6_play_0 : decode cX6_play 0 = .ok (.iconst (-1), 1) := by decide +kernel
theorem dX6_play_1 : decode cX6_play 1 = .ok (.istore_n 3, 1) := by decide +kernel
theorem dX6_play_2 : decode cX6_play 2 = .ok (.iconst 0, 1) := by decide +kernel
theorem dX6_play_3 : decode cX6_play 3 = .ok (.istore 4, 2) := by decide +kernel
theorem dX6_play_5 : decode cX6_play 5 = .ok (.iload 4, 2) := by decide +kernel
theorem dX6_play_7 : decode cX6_play 7 = .ok (.aload_n 0, 1) := by decide +kernel
theorem dX6_play_8 : decode cX6_play 8 = .ok (.getfield 24, 3) := by decide +kernel
theorem dX6_play_11 : decode cX6_play 11 = .ok (.if_icmp .ge 35, 3) := by decide +kernel
theorem dX6_play_14 : decode cX6_play 14 = .ok (.iload 4, 2) := by decide +kernel
theorem dX6_play_16 : decode cX6_play 16 = .ok (.bipush 30, 2) := by decide +kernel
theorem dX6_play_18 : decode cX6_play 18 = .ok (.if_icmp .ge 28, 3) := by decide +kernel
theorem dX6_play_21 : decode cX6_play 21 = .ok (.aload_n 0, 1) := by decide +kernel
theorem dX6_play_22 : decode cX6_play 22 = .ok (.iload 4, 2) := by decide +kernel
theorem dX6_play_24 : decode cX6_play 24 = .ok (.aload_n 1, 1) := by decide +kernel
theorem dX6_play_25 : decode cX6_play 25 = .ok (.aload_n 2, 1) := by decide +kernel
theorem dX6_play_26 : decode cX6_play 26 = .ok (.invokevirtual 91, 3) := by decide +kernel
theorem dX6_play_29 : decode cX6_play 29 = .ok (.ifCond .ne 11, 3) := by decide +kernel
theorem dX6_play_32 : decode cX6_play 32 = .ok (.iload_n 3, 1) := by decide +kernel
theorem dX6_play_33 : decode cX6_play 33 = .ok (.iconst (-1), 1) := by decide +kernel
theorem dX6_play_34 : decode cX6_play 34 = .ok (.if_icmp .ne 6, 3) := by decide +kernel
theorem dX6_play_37 : decode cX6_play 37 = .ok (.iload 4, 2) := by decide +kernel
theorem dX6_play_39 : decode cX6_play 39 = .ok (.istore_n 3, 1) := by decide +kernel
theorem dX6_play_40 : decode cX6_play 40 = .ok (.iinc 4 1, 3) := by decide +kernel
theorem dX6_play_43 : decode cX6_play 43 = .ok (.goto (-38), 3) := by decide +kernel
theorem dX6_play_46 : decode cX6_play 46 = .ok (.iload_n 3, 1) := by decide +kernel
theorem dX6_play_47 : decode cX6_play 47 = .ok (.ireturn, 1) := by decide +kernel
theorem dX6_playLine_0 : decode cX6_playLine 0 = .ok (.aload_n 0, 1) := by decide +kernel
theorem dX6_playLine_1 : decode cX6_playLine 1 = .ok (.getfield 9, 3) := by decide +kernel
theorem dX6_playLine_4 : decode cX6_playLine 4 = .ok (.iload_n 1, 1) := by decide +kernel
theorem dX6_playLine_5 : decode cX6_playLine 5 = .ok (.iaload, 1) := by decide +kernel
theorem dX6_playLine_6 : decode cX6_playLine 6 = .ok (.tableswitch 128 0 3 #[30, 57, 90, 117], 30) := by decide +kernel
theorem dX6_playLine_36 : decode cX6_playLine 36 = .ok (.aload_n 2, 1) := by decide +kernel
theorem dX6_playLine_37 : decode cX6_playLine 37 = .ok (.aload_n 3, 1) := by decide +kernel
theorem dX6_playLine_38 : decode cX6_playLine 38 = .ok (.aload_n 0, 1) := by decide +kernel
theorem dX6_playLine_39 : decode cX6_playLine 39 = .ok (.getfield 15, 3) := by decide +kernel
theorem dX6_playLine_42 : decode cX6_playLine 42 = .ok (.iload_n 1, 1) := by decide +kernel
theorem dX6_playLine_43 : decode cX6_playLine 43 = .ok (.iaload, 1) := by decide +kernel
theorem dX6_playLine_44 : decode cX6_playLine 44 = .ok (.aload_n 0, 1) := by decide +kernel
theorem dX6_playLine_45 : decode cX6_playLine 45 = .ok (.getfield 18, 3) := by decide +kernel
theorem dX6_playLine_48 : decode cX6_playLine 48 = .ok (.iload_n 1, 1) := by decide +kernel
theorem dX6_playLine_49 : decode cX6_playLine 49 = .ok (.iaload, 1) := by decide +kernel
theorem dX6_playLine_50 : decode cX6_playLine 50 = .ok (.invokevirtual 95, 3) := by decide +kernel
theorem dX6_playLine_53 : decode cX6_playLine 53 = .ok (.iconst (-1), 1) := by decide +kernel
theorem dX6_playLine_54 : decode cX6_playLine 54 = .ok (.if_icmp .eq 7, 3) := by decide +kernel
theorem dX6_playLine_57 : decode cX6_playLine 57 = .ok (.iconst 1, 1) := by decide +kernel
theorem dX6_playLine_58 : decode cX6_playLine 58 = .ok (.goto 4, 3) := by decide +kernel
theorem dX6_playLine_61 : decode cX6_playLine 61 = .ok (.iconst 0, 1) := by decide +kernel
theorem dX6_playLine_62 : decode cX6_playLine 62 = .ok (.ireturn, 1) := by decide +kernel
theorem dX6_playLine_63 : decode cX6_playLine 63 = .ok (.aload_n 2, 1) := by decide +kernel
theorem dX6_playLine_64 : decode cX6_playLine 64 = .ok (.aload_n 3, 1) := by decide +kernel
theorem dX6_playLine_65 : decode cX6_playLine 65 = .ok (.aload_n 0, 1) := by decide +kernel
theorem dX6_playLine_66 : decode cX6_playLine 66 = .ok (.getfield 15, 3) := by decide +kernel
theorem dX6_playLine_69 : decode cX6_playLine 69 = .ok (.iload_n 1, 1) := by decide +kernel
theorem dX6_playLine_70 : decode cX6_playLine 70 = .ok (.iaload, 1) := by decide +kernel
theorem dX6_playLine_71 : decode cX6_playLine 71 = .ok (.aload_n 0, 1) := by decide +kernel
theorem dX6_playLine_72 : decode cX6_playLine 72 = .ok (.getfield 18, 3) := by decide +kernel
theorem dX6_playLine_75 : decode cX6_playLine 75 = .ok (.iload_n 1, 1) := by decide +kernel
theorem dX6_playLine_76 : decode cX6_playLine 76 = .ok (.iaload, 1) := by decide +kernel
theorem dX6_playLine_77 : decode cX6_playLine 77 = .ok (.aload_n 0, 1) := by decide +kernel
theorem dX6_playLine_78 : decode cX6_playLine 78 = .ok (.getfield 21, 3) := by decide +kernel
theorem dX6_playLine_81 : decode cX6_playLine 81 = .ok (.iload_n 1, 1) := by decide +kernel
theorem dX6_playLine_82 : decode cX6_playLine 82 = .ok (.iaload, 1) := by decide +kernel
theorem dX6_playLine_83 : decode cX6_playLine 83 = .ok (.invokevirtual 101, 3) := by decide +kernel
theorem dX6_playLine_86 : decode cX6_playLine 86 = .ok (.iconst (-1), 1) := by decide +kernel
theorem dX6_playLine_87 : decode cX6_playLine 87 = .ok (.if_icmp .eq 7, 3) := by decide +kernel
theorem dX6_playLine_90 : decode cX6_playLine 90 = .ok (.iconst 1, 1) := by decide +kernel
theorem dX6_playLine_91 : decode cX6_playLine 91 = .ok (.goto 4, 3) := by decide +kernel
theorem dX6_playLine_94 : decode cX6_playLine 94 = .ok (.iconst 0, 1) := by decide +kernel
theorem dX6_playLine_95 : decode cX6_playLine 95 = .ok (.ireturn, 1) := by decide +kernel
theorem dX6_playLine_96 : decode cX6_playLine 96 = .ok (.aload_n 2, 1) := by decide +kernel
theorem dX6_playLine_97 : decode cX6_playLine 97 = .ok (.aload_n 3, 1) := by decide +kernel
theorem dX6_playLine_98 : decode cX6_playLine 98 = .ok (.aload_n 0, 1) := by decide +kernel
theorem dX6_playLine_99 : decode cX6_playLine 99 = .ok (.getfield 15, 3) := by decide +kernel
theorem dX6_playLine_102 : decode cX6_playLine 102 = .ok (.iload_n 1, 1) := by decide +kernel
theorem dX6_playLine_103 : decode cX6_playLine 103 = .ok (.iaload, 1) := by decide +kernel
theorem dX6_playLine_104 : decode cX6_playLine 104 = .ok (.aload_n 0, 1) := by decide +kernel
theorem dX6_playLine_105 : decode cX6_playLine 105 = .ok (.getfield 18, 3) := by decide +kernel
theorem dX6_playLine_108 : decode cX6_playLine 108 = .ok (.iload_n 1, 1) := by decide +kernel
theorem dX6_playLine_109 : decode cX6_playLine 109 = .ok (.iaload, 1) := by decide +kernel
theorem dX6_playLine_110 : decode cX6_playLine 110 = .ok (.invokevirtual 105, 3) := by decide +kernel
theorem dX6_playLine_113 : decode cX6_playLine 113 = .ok (.iconst (-1), 1) := by decide +kernel
theorem dX6_playLine_114 : decode cX6_playLine 114 = .ok (.if_icmp .eq 7, 3) := by decide +kernel
theorem dX6_playLine_117 : decode cX6_playLine 117 = .ok (.iconst 1, 1) := by decide +kernel
theorem dX6_playLine_118 : decode cX6_playLine 118 = .ok (.goto 4, 3) := by decide +kernel
theorem dX6_playLine_121 : decode cX6_playLine 121 = .ok (.iconst 0, 1) := by decide +kernel
theorem dX6_playLine_122 : decode cX6_playLine 122 = .ok (.ireturn, 1) := by decide +kernel
theorem dX6_playLine_123 : decode cX6_playLine 123 = .ok (.aload_n 2, 1) := by decide +kernel
theorem dX6_playLine_124 : decode cX6_playLine 124 = .ok (.aload_n 0, 1) := by decide +kernel
theorem dX6_playLine_125 : decode cX6_playLine 125 = .ok (.getfield 18, 3) := by decide +kernel
theorem dX6_playLine_128 : decode cX6_playLine 128 = .ok (.iload_n 1, 1) := by decide +kernel
theorem dX6_playLine_129 : decode cX6_playLine 129 = .ok (.iaload, 1) := by decide +kernel
theorem dX6_playLine_130 : decode cX6_playLine 130 = .ok (.invokevirtual 108, 3) := by decide +kernel
theorem dX6_playLine_133 : decode cX6_playLine 133 = .ok (.ireturn, 1) := by decide +kernel
theorem dX6_playLine_134 : decode cX6_playLine 134 = .ok (.aload_n 2, 1) := by decide +kernel
theorem dX6_playLine_135 : decode cX6_playLine 135 = .ok (.invokevirtual 112, 3) := by decide +kernel
theorem dX6_playLine_138 : decode cX6_playLine 138 = .ok (.iconst 1, 1) := by decide +kernel
theorem dX6_playLine_139 : decode cX6_playLine 139 = .ok (.ireturn, 1) := by decide +kernel
theorem dX7_init_0 : decode cX7_init 0 = .ok (.aload_n 0, 1) := by decide +kernel
theorem dX7_init_1 : decode cX7_init 1 = .ok (.invokespecial 3, 3) := by decide +kernel
theorem dX7_init_4 : decode cX7_init 4 = .ok (.aload_n 0, 1) := by decide +kernel
theorem dX7_init_5 : decode cX7_init 5 = .ok (.bipush 8, 2) := by decide +kernel
theorem dX7_init_7 : decode cX7_init 7 = .ok (.newarray .int, 2) := by decide +kernel
theorem dX7_init_9 : decode cX7_init 9 = .ok (.putfield 9, 3) := by decide +kernel
theorem dX7_init_12 : decode cX7_init 12 = .ok (.aload_n 0, 1) := by decide +kernel
theorem dX7_init_13 : decode cX7_init 13 = .ok (.sipush 243, 3) := by decide +kernel
theorem dX7_init_16 : decode cX7_init 16 = .ok (.newarray .int, 2) := by decide +kernel
theorem dX7_init_18 : decode cX7_init 18 = .ok (.putfield 15, 3) := by decide +kernel
theorem dX7_init_21 : decode cX7_init 21 = .ok (.aload_n 0, 1) := by decide +kernel
theorem dX7_init_22 : decode cX7_init 22 = .ok (.iconst 1, 1) := by decide +kernel
theorem dX7_init_23 : decode cX7_init 23 = .ok (.putfield 18, 3) := by decide +kernel
theorem dX7_init_26 : decode cX7_init 26 = .ok (.return_, 1) := by decide +kernel
theorem dX7_weigh_0 : decode cX7_weigh 0 = .ok (.aload_n 0, 1) := by decide +kernel
theorem dX7_weigh_1 : decode cX7_weigh 1 = .ok (.aload_n 1, 1) := by decide +kernel
theorem dX7_weigh_2 : decode cX7_weigh 2 = .ok (.getfield 22, 3) := by decide +kernel
theorem dX7_weigh_5 : decode cX7_weigh 5 = .ok (.putfield 18, 3) := by decide +kernel
theorem dX7_weigh_8 : decode cX7_weigh 8 = .ok (.iconst 1, 1) := by decide +kernel
theorem dX7_weigh_9 : decode cX7_weigh 9 = .ok (.istore_n 3, 1) := by decide +kernel
theorem dX7_weigh_10 : decode cX7_weigh 10 = .ok (.iload_n 3, 1) := by decide +kernel
theorem dX7_weigh_11 : decode cX7_weigh 11 = .ok (.aload_n 0, 1) := by decide +kernel
theorem dX7_weigh_12 : decode cX7_weigh 12 = .ok (.getfield 18, 3) := by decide +kernel
theorem dX7_weigh_15 : decode cX7_weigh 15 = .ok (.if_icmp .ge 43, 3) := by decide +kernel
theorem dX7_weigh_18 : decode cX7_weigh 18 = .ok (.aload_n 1, 1) := by decide +kernel
theorem dX7_weigh_19 : decode cX7_weigh 19 = .ok (.getfield 25, 3) := by decide +kernel
theorem dX7_weigh_22 : decode cX7_weigh 22 = .ok (.iload_n 3, 1) := by decide +kernel
theorem dX7_weigh_23 : decode cX7_weigh 23 = .ok (.iaload, 1) := by decide +kernel
theorem dX7_weigh_24 : decode cX7_weigh 24 = .ok (.invokestatic 28, 3) := by decide +kernel
theorem dX7_weigh_27 : decode cX7_weigh 27 = .ok (.istore 4, 2) := by decide +kernel
theorem dX7_weigh_29 : decode cX7_weigh 29 = .ok (.aload_n 0, 1) := by decide +kernel
theorem dX7_weigh_30 : decode cX7_weigh 30 = .ok (.getfield 9, 3) := by decide +kernel
theorem dX7_weigh_33 : decode cX7_weigh 33 = .ok (.iload_n 3, 1) := by decide +kernel
theorem dX7_weigh_34 : decode cX7_weigh 34 = .ok (.aload_n 2, 1) := by decide +kernel
theorem dX7_weigh_35 : decode cX7_weigh 35 = .ok (.aload_n 1, 1) := by decide +kernel
theorem dX7_weigh_36 : decode cX7_weigh 36 = .ok (.aload_n 2, 1) := by decide +kernel
theorem dX7_weigh_37 : decode cX7_weigh 37 = .ok (.aload_n 1, 1) := by decide +kernel
theorem dX7_weigh_38 : decode cX7_weigh 38 = .ok (.getfield 34, 3) := by decide +kernel
theorem dX7_weigh_41 : decode cX7_weigh 41 = .ok (.iload_n 3, 1) := by decide +kernel
theorem dX7_weigh_42 : decode cX7_weigh 42 = .ok (.iaload, 1) := by decide +kernel
theorem dX7_weigh_43 : decode cX7_weigh 43 = .ok (.iload 4, 2) := by decide +kernel
theorem dX7_weigh_45 : decode cX7_weigh 45 = .ok (.invokevirtual 37, 3) := by decide +kernel
theorem dX7_weigh_48 : decode cX7_weigh 48 = .ok (.invokestatic 41, 3) := by decide +kernel
theorem dX7_weigh_51 : decode cX7_weigh 51 = .ok (.iastore, 1) := by decide +kernel
theorem dX7_weigh_52 : decode cX7_weigh 52 = .ok (.iinc 3 1, 3) := by decide +kernel
theorem dX7_weigh_55 : decode cX7_weigh 55 = .ok (.goto (-45), 3) := by decide +kernel
theorem dX7_weigh_58 : decode cX7_weigh 58 = .ok (.aload_n 0, 1) := by decide +kernel
theorem dX7_weigh_59 : decode cX7_weigh 59 = .ok (.invokevirtual 45, 3) := by decide +kernel
theorem dX7_weigh_62 : decode cX7_weigh 62 = .ok (.return_, 1) := by decide +kernel
theorem dX7_skilled_0 : decode cX7_skilled 0 = .ok (.iconst 0, 1) := by decide +kernel
theorem dX7_skilled_1 : decode cX7_skilled 1 = .ok (.istore_n 2, 1) := by decide +kernel
theorem dX7_skilled_2 : decode cX7_skilled 2 = .ok (.iconst 0, 1) := by decide +kernel
theorem dX7_skilled_3 : decode cX7_skilled 3 = .ok (.istore_n 3, 1) := by decide +kernel
theorem dX7_skilled_4 : decode cX7_skilled 4 = .ok (.iload_n 3, 1) := by decide +kernel
theorem dX7_skilled_5 : decode cX7_skilled 5 = .ok (.aload_n 0, 1) := by decide +kernel
theorem dX7_skilled_6 : decode cX7_skilled 6 = .ok (.getfield 48, 3) := by decide +kernel
theorem dX7_skilled_9 : decode cX7_skilled 9 = .ok (.if_icmp .ge 25, 3) := by decide +kernel
theorem dX7_skilled_12 : decode cX7_skilled 12 = .ok (.aload_n 0, 1) := by decide +kernel
theorem dX7_skilled_13 : decode cX7_skilled 13 = .ok (.getfield 53, 3) := by decide +kernel
theorem dX7_skilled_16 : decode cX7_skilled 16 = .ok (.iload_n 3, 1) := by decide +kernel
theorem dX7_skilled_17 : decode cX7_skilled 17 = .ok (.iaload, 1) := by decide +kernel
theorem dX7_skilled_18 : decode cX7_skilled 18 = .ok (.iload_n 1, 1) := by decide +kernel
theorem dX7_skilled_19 : decode cX7_skilled 19 = .ok (.if_icmp .lt 9, 3) := by decide +kernel
theorem dX7_skilled_22 : decode cX7_skilled 22 = .ok (.iload_n 2, 1) := by decide +kernel
theorem dX7_skilled_23 : decode cX7_skilled 23 = .ok (.iconst 1, 1) := by decide +kernel
theorem dX7_skilled_24 : decode cX7_skilled 24 = .ok (.iload_n 3, 1) := by decide +kernel
theorem dX7_skilled_25 : decode cX7_skilled 25 = .ok (.ishl, 1) := by decide +kernel
theorem dX7_skilled_26 : decode cX7_skilled 26 = .ok (.ior, 1) := by decide +kernel
theorem dX7_skilled_27 : decode cX7_skilled 27 = .ok (.istore_n 2, 1) := by decide +kernel
theorem dX7_skilled_28 : decode cX7_skilled 28 = .ok (.iinc 3 1, 3) := by decide +kernel
theorem dX7_skilled_31 : decode cX7_skilled 31 = .ok (.goto (-27), 3) := by decide +kernel
theorem dX7_skilled_34 : decode cX7_skilled 34 = .ok (.iload_n 2, 1) := by decide +kernel
theorem dX7_skilled_35 : decode cX7_skilled 35 = .ok (.ireturn, 1) := by decide +kernel
theorem dX7_countWays_0 : decode cX7_countWays 0 = .ok (.sipush 242, 3) := by decide +kernel
theorem dX7_countWays_3 : decode cX7_countWays 3 = .ok (.istore_n 1, 1) := by decide +kernel
theorem dX7_countWays_4 : decode cX7_countWays 4 = .ok (.iload_n 1, 1) := by decide +kernel
theorem dX7_countWays_5 : decode cX7_countWays 5 = .ok (.ifCond .lt 72, 3) := by decide +kernel
theorem dX7_countWays_8 : decode cX7_countWays 8 = .ok (.iconst 1, 1) := by decide +kernel
theorem dX7_countWays_9 : decode cX7_countWays 9 = .ok (.iload_n 1, 1) := by decide +kernel
theorem dX7_countWays_10 : decode cX7_countWays 10 = .ok (.invokestatic 56, 3) := by decide +kernel
theorem dX7_countWays_13 : decode cX7_countWays 13 = .ok (.iadd, 1) := by decide +kernel
theorem dX7_countWays_14 : decode cX7_countWays 14 = .ok (.istore_n 2, 1) := by decide +kernel
theorem dX7_countWays_15 : decode cX7_countWays 15 = .ok (.aload_n 0, 1) := by decide +kernel
theorem dX7_countWays_16 : decode cX7_countWays 16 = .ok (.getfield 15, 3) := by decide +kernel
theorem dX7_countWays_19 : decode cX7_countWays 19 = .ok (.iload_n 1, 1) := by decide +kernel
theorem dX7_countWays_20 : decode cX7_countWays 20 = .ok (.iload_n 2, 1) := by decide +kernel
theorem dX7_countWays_21 : decode cX7_countWays 21 = .ok (.aload_n 0, 1) := by decide +kernel
theorem dX7_countWays_22 : decode cX7_countWays 22 = .ok (.getfield 18, 3) := by decide +kernel
theorem dX7_countWays_25 : decode cX7_countWays 25 = .ok (.if_icmp .ne 7, 3) := by decide +kernel
theorem dX7_countWays_28 : decode cX7_countWays 28 = .ok (.iconst 1, 1) := by decide +kernel
theorem dX7_countWays_29 : decode cX7_countWays 29 = .ok (.goto 4, 3) := by decide +kernel
theorem dX7_countWays_32 : decode cX7_countWays 32 = .ok (.iconst 0, 1) := by decide +kernel
theorem dX7_countWays_33 : decode cX7_countWays 33 = .ok (.iastore, 1) := by decide +kernel
theorem dX7_countWays_34 : decode cX7_countWays 34 = .ok (.iconst 0, 1) := by decide +kernel
theorem dX7_countWays_35 : decode cX7_countWays 35 = .ok (.istore_n 3, 1) := by decide +kernel
theorem dX7_countWays_36 : decode cX7_countWays 36 = .ok (.iload_n 3, 1) := by decide +kernel
theorem dX7_countWays_37 : decode cX7_countWays 37 = .ok (.iconst 5, 1) := by decide +kernel
theorem dX7_countWays_38 : decode cX7_countWays 38 = .ok (.if_icmp .ge 33, 3) := by decide +kernel
theorem dX7_countWays_41 : decode cX7_countWays 41 = .ok (.iload_n 2, 1) := by decide +kernel
theorem dX7_countWays_42 : decode cX7_countWays 42 = .ok (.aload_n 0, 1) := by decide +kernel
theorem dX7_countWays_43 : decode cX7_countWays 43 = .ok (.getfield 18, 3) := by decide +kernel
theorem dX7_countWays_46 : decode cX7_countWays 46 = .ok (.if_icmp .ge 25, 3) := by decide +kernel
theorem dX7_countWays_49 : decode cX7_countWays 49 = .ok (.aload_n 0, 1) := by decide +kernel
theorem dX7_countWays_50 : decode cX7_countWays 50 = .ok (.getfield 15, 3) := by decide +kernel
theorem dX7_countWays_53 : decode cX7_countWays 53 = .ok (.iload_n 1, 1) := by decide +kernel
theorem dX7_countWays_54 : decode cX7_countWays 54 = .ok (.dup2, 1) := by decide +kernel
theorem dX7_countWays_55 : decode cX7_countWays 55 = .ok (.iaload, 1) := by decide +kernel
theorem dX7_countWays_56 : decode cX7_countWays 56 = .ok (.aload_n 0, 1) := by decide +kernel
theorem dX7_countWays_57 : decode cX7_countWays 57 = .ok (.iload_n 1, 1) := by decide +kernel
theorem dX7_countWays_58 : decode cX7_countWays 58 = .ok (.iload_n 2, 1) := by decide +kernel
theorem dX7_countWays_59 : decode cX7_countWays 59 = .ok (.iload_n 3, 1) := by decide +kernel
theorem dX7_countWays_60 : decode cX7_countWays 60 = .ok (.invokevirtual 59, 3) := by decide +kernel
theorem dX7_countWays_63 : decode cX7_countWays 63 = .ok (.iadd, 1) := by decide +kernel
theorem dX7_countWays_64 : decode cX7_countWays 64 = .ok (.iastore, 1) := by decide +kernel
theorem dX7_countWays_65 : decode cX7_countWays 65 = .ok (.iinc 3 1, 3) := by decide +kernel
theorem dX7_countWays_68 : decode cX7_countWays 68 = .ok (.goto (-32), 3) := by decide +kernel
theorem dX7_countWays_71 : decode cX7_countWays 71 = .ok (.iinc 1 (-1), 3) := by decide +kernel
theorem dX7_countWays_74 : decode cX7_countWays 74 = .ok (.goto (-70), 3) := by decide +kernel
theorem dX7_countWays_77 : decode cX7_countWays 77 = .ok (.return_, 1) := by decide +kernel
theorem dX7_given_0 : decode cX7_given 0 = .ok (.iconst 0, 1) := by decide +kernel
theorem dX7_given_1 : decode cX7_given 1 = .ok (.istore_n 1, 1) := by decide +kernel
theorem dX7_given_2 : decode cX7_given 2 = .ok (.iconst 0, 1) := by decide +kernel
theorem dX7_given_3 : decode cX7_given 3 = .ok (.istore_n 2, 1) := by decide +kernel
theorem dX7_given_4 : decode cX7_given 4 = .ok (.iload_n 2, 1) := by decide +kernel
theorem dX7_given_5 : decode cX7_given 5 = .ok (.iconst 5, 1) := by decide +kernel
theorem dX7_given_6 : decode cX7_given 6 = .ok (.if_icmp .ge 21, 3) := by decide +kernel
theorem dX7_given_9 : decode cX7_given 9 = .ok (.iload_n 1, 1) := by decide +kernel
theorem dX7_given_10 : decode cX7_given 10 = .ok (.iload_n 0, 1) := by decide +kernel
theorem dX7_given_11 : decode cX7_given 11 = .ok (.getstatic 63, 3) := by decide +kernel
theorem dX7_given_14 : decode cX7_given 14 = .ok (.iload_n 2, 1) := by decide +kernel
theorem dX7_given_15 : decode cX7_given 15 = .ok (.iaload, 1) := by decide +kernel
theorem dX7_given_16 : decode cX7_given 16 = .ok (.idiv, 1) := by decide +kernel
theorem dX7_given_17 : decode cX7_given 17 = .ok (.iconst 3, 1) := by decide +kernel
theorem dX7_given_18 : decode cX7_given 18 = .ok (.irem, 1) := by decide +kernel
theorem dX7_given_19 : decode cX7_given 19 = .ok (.iadd, 1) := by decide +kernel
theorem dX7_given_20 : decode cX7_given 20 = .ok (.istore_n 1, 1) := by decide +kernel
theorem dX7_given_21 : decode cX7_given 21 = .ok (.iinc 2 1, 3) := by decide +kernel
theorem dX7_given_24 : decode cX7_given 24 = .ok (.goto (-20), 3) := by decide +kernel
theorem dX7_given_27 : decode cX7_given 27 = .ok (.iload_n 1, 1) := by decide +kernel
theorem dX7_given_28 : decode cX7_given 28 = .ok (.ireturn, 1) := by decide +kernel
theorem dX7_waysWith_0 : decode cX7_waysWith 0 = .ok (.aload_n 0, 1) := by decide +kernel
theorem dX7_waysWith_1 : decode cX7_waysWith 1 = .ok (.getfield 9, 3) := by decide +kernel
theorem dX7_waysWith_4 : decode cX7_waysWith 4 = .ok (.iload_n 2, 1) := by decide +kernel
theorem dX7_waysWith_5 : decode cX7_waysWith 5 = .ok (.iaload, 1) := by decide +kernel
theorem dX7_waysWith_6 : decode cX7_waysWith 6 = .ok (.iload_n 3, 1) := by decide +kernel
theorem dX7_waysWith_7 : decode cX7_waysWith 7 = .ok (.ishr, 1) := by decide +kernel
theorem dX7_waysWith_8 : decode cX7_waysWith 8 = .ok (.iconst 1, 1) := by decide +kernel
theorem dX7_waysWith_9 : decode cX7_waysWith 9 = .ok (.iand, 1) := by decide +kernel
theorem dX7_waysWith_10 : decode cX7_waysWith 10 = .ok (.ifCond .eq 20, 3) := by decide +kernel
theorem dX7_waysWith_13 : decode cX7_waysWith 13 = .ok (.iload_n 1, 1) := by decide +kernel
theorem dX7_waysWith_14 : decode cX7_waysWith 14 = .ok (.getstatic 63, 3) := by decide +kernel
theorem dX7_waysWith_17 : decode cX7_waysWith 17 = .ok (.iload_n 3, 1) := by decide +kernel
theorem dX7_waysWith_18 : decode cX7_waysWith 18 = .ok (.iaload, 1) := by decide +kernel
theorem dX7_waysWith_19 : decode cX7_waysWith 19 = .ok (.idiv, 1) := by decide +kernel
theorem dX7_waysWith_20 : decode cX7_waysWith 20 = .ok (.iconst 3, 1) := by decide +kernel
theorem dX7_waysWith_21 : decode cX7_waysWith 21 = .ok (.irem, 1) := by decide +kernel
theorem dX7_waysWith_22 : decode cX7_waysWith 22 = .ok (.iconst 2, 1) := by decide +kernel
theorem dX7_waysWith_23 : decode cX7_waysWith 23 = .ok (.if_icmp .ge 7, 3) := by decide +kernel
theorem dX7_waysWith_26 : decode cX7_waysWith 26 = .ok (.iconst 1, 1) := by decide +kernel
theorem dX7_waysWith_27 : decode cX7_waysWith 27 = .ok (.goto 4, 3) := by decide +kernel
theorem dX7_waysWith_30 : decode cX7_waysWith 30 = .ok (.iconst 0, 1) := by decide +kernel
theorem dX7_waysWith_31 : decode cX7_waysWith 31 = .ok (.istore 4, 2) := by decide +kernel
theorem dX7_waysWith_33 : decode cX7_waysWith 33 = .ok (.iload 4, 2) := by decide +kernel
theorem dX7_waysWith_35 : decode cX7_waysWith 35 = .ok (.ifCond .eq 18, 3) := by decide +kernel
theorem dX7_waysWith_38 : decode cX7_waysWith 38 = .ok (.aload_n 0, 1) := by decide +kernel
theorem dX7_waysWith_39 : decode cX7_waysWith 39 = .ok (.getfield 15, 3) := by decide +kernel
theorem dX7_waysWith_42 : decode cX7_waysWith 42 = .ok (.iload_n 1, 1) := by decide +kernel
theorem dX7_waysWith_43 : decode cX7_waysWith 43 = .ok (.getstatic 63, 3) := by decide +kernel
theorem dX7_waysWith_46 : decode cX7_waysWith 46 = .ok (.iload_n 3, 1) := by decide +kernel
theorem dX7_waysWith_47 : decode cX7_waysWith 47 = .ok (.iaload, 1) := by decide +kernel
theorem dX7_waysWith_48 : decode cX7_waysWith 48 = .ok (.iadd, 1) := by decide +kernel
theorem dX7_waysWith_49 : decode cX7_waysWith 49 = .ok (.iaload, 1) := by decide +kernel
theorem dX7_waysWith_50 : decode cX7_waysWith 50 = .ok (.goto 4, 3) := by decide +kernel
theorem dX7_waysWith_53 : decode cX7_waysWith 53 = .ok (.iconst 0, 1) := by decide +kernel
theorem dX7_waysWith_54 : decode cX7_waysWith 54 = .ok (.ireturn, 1) := by decide +kernel
theorem dX7_total_0 : decode cX7_total 0 = .ok (.aload_n 0, 1) := by decide +kernel
theorem dX7_total_1 : decode cX7_total 1 = .ok (.getfield 15, 3) := by decide +kernel
theorem dX7_total_4 : decode cX7_total 4 = .ok (.iconst 0, 1) := by decide +kernel
theorem dX7_total_5 : decode cX7_total 5 = .ok (.iaload, 1) := by decide +kernel
theorem dX7_total_6 : decode cX7_total 6 = .ok (.ireturn, 1) := by decide +kernel
theorem dX7_inFirst_0 : decode cX7_inFirst 0 = .ok (.iconst 0, 1) := by decide +kernel
theorem dX7_inFirst_1 : decode cX7_inFirst 1 = .ok (.istore_n 2, 1) := by decide +kernel
theorem dX7_inFirst_2 : decode cX7_inFirst 2 = .ok (.iconst 1, 1) := by decide +kernel
theorem dX7_inFirst_3 : decode cX7_inFirst 3 = .ok (.istore_n 3, 1) := by decide +kernel
theorem dX7_inFirst_4 : decode cX7_inFirst 4 = .ok (.iload_n 3, 1) := by decide +kernel
theorem dX7_inFirst_5 : decode cX7_inFirst 5 = .ok (.iload_n 1, 1) := by decide +kernel
theorem dX7_inFirst_6 : decode cX7_inFirst 6 = .ok (.if_icmp .gt 40, 3) := by decide +kernel
theorem dX7_inFirst_9 : decode cX7_inFirst 9 = .ok (.aload_n 0, 1) := by decide +kernel
theorem dX7_inFirst_10 : decode cX7_inFirst 10 = .ok (.iload_n 2, 1) := by decide +kernel
theorem dX7_inFirst_11 : decode cX7_inFirst 11 = .ok (.iload_n 3, 1) := by decide +kernel
theorem dX7_inFirst_12 : decode cX7_inFirst 12 = .ok (.invokevirtual 66, 3) := by decide +kernel
theorem dX7_inFirst_15 : decode cX7_inFirst 15 = .ok (.istore 4, 2) := by decide +kernel
theorem dX7_inFirst_17 : decode cX7_inFirst 17 = .ok (.iload 4, 2) := by decide +kernel
theorem dX7_inFirst_19 : decode cX7_inFirst 19 = .ok (.iconst (-1), 1) := by decide +kernel
theorem dX7_inFirst_20 : decode cX7_inFirst 20 = .ok (.if_icmp .eq 8, 3) := by decide +kernel
theorem dX7_inFirst_23 : decode cX7_inFirst 23 = .ok (.iload_n 3, 1) := by decide +kernel
theorem dX7_inFirst_24 : decode cX7_inFirst 24 = .ok (.iload_n 1, 1) := by decide +kernel
theorem dX7_inFirst_25 : decode cX7_inFirst 25 = .ok (.if_icmp .ne 6, 3) := by decide +kernel
theorem dX7_inFirst_28 : decode cX7_inFirst 28 = .ok (.iload 4, 2) := by decide +kernel
theorem dX7_inFirst_30 : decode cX7_inFirst 30 = .ok (.ireturn, 1) := by decide +kernel
theorem dX7_inFirst_31 : decode cX7_inFirst 31 = .ok (.iload_n 2, 1) := by decide +kernel
theorem dX7_inFirst_32 : decode cX7_inFirst 32 = .ok (.getstatic 63, 3) := by decide +kernel
theorem dX7_inFirst_35 : decode cX7_inFirst 35 = .ok (.iload 4, 2) := by decide +kernel
theorem dX7_inFirst_37 : decode cX7_inFirst 37 = .ok (.iaload, 1) := by decide +kernel
theorem dX7_inFirst_38 : decode cX7_inFirst 38 = .ok (.iadd, 1) := by decide +kernel
theorem dX7_inFirst_39 : decode cX7_inFirst 39 = .ok (.istore_n 2, 1) := by decide +kernel
theorem dX7_inFirst_40 : decode cX7_inFirst 40 = .ok (.iinc 3 1, 3) := by decide +kernel
theorem dX7_inFirst_43 : decode cX7_inFirst 43 = .ok (.goto (-39), 3) := by decide +kernel
theorem dX7_inFirst_46 : decode cX7_inFirst 46 = .ok (.iconst (-1), 1) := by decide +kernel
theorem dX7_inFirst_47 : decode cX7_inFirst 47 = .ok (.ireturn, 1) := by decide +kernel
theorem dX7_firstWith_0 : decode cX7_firstWith 0 = .ok (.iconst 0, 1) := by decide +kernel
theorem dX7_firstWith_1 : decode cX7_firstWith 1 = .ok (.istore_n 3, 1) := by decide +kernel
theorem dX7_firstWith_2 : decode cX7_firstWith 2 = .ok (.iload_n 3, 1) := by decide +kernel
theorem dX7_firstWith_3 : decode cX7_firstWith 3 = .ok (.iconst 5, 1) := by decide +kernel
theorem dX7_firstWith_4 : decode cX7_firstWith 4 = .ok (.if_icmp .ge 21, 3) := by decide +kernel
theorem dX7_firstWith_7 : decode cX7_firstWith 7 = .ok (.aload_n 0, 1) := by decide +kernel
theorem dX7_firstWith_8 : decode cX7_firstWith 8 = .ok (.iload_n 1, 1) := by decide +kernel
theorem dX7_firstWith_9 : decode cX7_firstWith 9 = .ok (.iload_n 2, 1) := by decide +kernel
theorem dX7_firstWith_10 : decode cX7_firstWith 10 = .ok (.iload_n 3, 1) := by decide +kernel
theorem dX7_firstWith_11 : decode cX7_firstWith 11 = .ok (.invokevirtual 59, 3) := by decide +kernel
theorem dX7_firstWith_14 : decode cX7_firstWith 14 = .ok (.ifCond .le 5, 3) := by decide +kernel
theorem dX7_firstWith_17 : decode cX7_firstWith 17 = .ok (.iload_n 3, 1) := by decide +kernel
theorem dX7_firstWith_18 : decode cX7_firstWith 18 = .ok (.ireturn, 1) := by decide +kernel
theorem dX7_firstWith_19 : decode cX7_firstWith 19 = .ok (.iinc 3 1, 3) := by decide +kernel
theorem dX7_firstWith_22 : decode cX7_firstWith 22 = .ok (.goto (-20), 3) := by decide +kernel
theorem dX7_firstWith_25 : decode cX7_firstWith 25 = .ok (.iconst (-1), 1) := by decide +kernel
theorem dX7_firstWith_26 : decode cX7_firstWith 26 = .ok (.ireturn, 1) := by decide +kernel
theorem dX7_inAll_0 : decode cX7_inAll 0 = .ok (.aload_n 0, 1) := by decide +kernel
theorem dX7_inAll_1 : decode cX7_inAll 1 = .ok (.iload_n 1, 1) := by decide +kernel
theorem dX7_inAll_2 : decode cX7_inAll 2 = .ok (.invokevirtual 70, 3) := by decide +kernel
theorem dX7_inAll_5 : decode cX7_inAll 5 = .ok (.istore_n 2, 1) := by decide +kernel
theorem dX7_inAll_6 : decode cX7_inAll 6 = .ok (.iload_n 2, 1) := by decide +kernel
theorem dX7_inAll_7 : decode cX7_inAll 7 = .ok (.iconst (-1), 1) := by decide +kernel
theorem dX7_inAll_8 : decode cX7_inAll 8 = .ok (.if_icmp .ne 5, 3) := by decide +kernel
theorem dX7_inAll_11 : decode cX7_inAll 11 = .ok (.iconst (-1), 1) := by decide +kernel
theorem dX7_inAll_12 : decode cX7_inAll 12 = .ok (.ireturn, 1) := by decide +kernel
theorem dX7_inAll_13 : decode cX7_inAll 13 = .ok (.aload_n 0, 1) := by decide +kernel
theorem dX7_inAll_14 : decode cX7_inAll 14 = .ok (.invokevirtual 73, 3) := by decide +kernel
theorem dX7_inAll_17 : decode cX7_inAll 17 = .ok (.istore_n 3, 1) := by decide +kernel
theorem dX7_inAll_18 : decode cX7_inAll 18 = .ok (.aload_n 0, 1) := by decide +kernel
theorem dX7_inAll_19 : decode cX7_inAll 19 = .ok (.getfield 9, 3) := by decide +kernel
theorem dX7_inAll_22 : decode cX7_inAll 22 = .ok (.iload_n 1, 1) := by decide +kernel
theorem dX7_inAll_23 : decode cX7_inAll 23 = .ok (.iconst 1, 1) := by decide +kernel
theorem dX7_inAll_24 : decode cX7_inAll 24 = .ok (.iload_n 2, 1) := by decide +kernel
theorem dX7_inAll_25 : decode cX7_inAll 25 = .ok (.ishl, 1) := by decide +kernel
theorem dX7_inAll_26 : decode cX7_inAll 26 = .ok (.iastore, 1) := by decide +kernel
theorem dX7_inAll_27 : decode cX7_inAll 27 = .ok (.aload_n 0, 1) := by decide +kernel
theorem dX7_inAll_28 : decode cX7_inAll 28 = .ok (.invokevirtual 45, 3) := by decide +kernel
theorem dX7_inAll_31 : decode cX7_inAll 31 = .ok (.aload_n 0, 1) := by decide +kernel
theorem dX7_inAll_32 : decode cX7_inAll 32 = .ok (.invokevirtual 73, 3) := by decide +kernel
theorem dX7_inAll_35 : decode cX7_inAll 35 = .ok (.iload_n 3, 1) := by decide +kernel
theorem dX7_inAll_36 : decode cX7_inAll 36 = .ok (.if_icmp .ne 7, 3) := by decide +kernel
theorem dX7_inAll_39 : decode cX7_inAll 39 = .ok (.iload_n 2, 1) := by decide +kernel
theorem dX7_inAll_40 : decode cX7_inAll 40 = .ok (.goto 4, 3) := by decide +kernel
theorem dX7_inAll_43 : decode cX7_inAll 43 = .ok (.iconst (-1), 1) := by decide +kernel
theorem dX7_inAll_44 : decode cX7_inAll 44 = .ok (.ireturn, 1) := by decide +kernel
theorem dX8_init_0 : decode cX8_init 0 = .ok (.aload_n 0, 1) := by decide +kernel
theorem dX8_init_1 : decode cX8_init 1 = .ok (.invokespecial 3, 3) := by decide +kernel
theorem dX8_init_4 : decode cX8_init 4 = .ok (.aload_n 0, 1) := by decide +kernel
theorem dX8_init_5 : decode cX8_init 5 = .ok (.sipush 1000, 3) := by decide +kernel
theorem dX8_init_8 : decode cX8_init 8 = .ok (.newarray .char, 2) := by decide +kernel
theorem dX8_init_10 : decode cX8_init 10 = .ok (.putfield 9, 3) := by decide +kernel
theorem dX8_init_13 : decode cX8_init 13 = .ok (.aload_n 0, 1) := by decide +kernel
theorem dX8_init_14 : decode cX8_init 14 = .ok (.sipush 1001, 3) := by decide +kernel
theorem dX8_init_17 : decode cX8_init 17 = .ok (.newarray .int, 2) := by decide +kernel
theorem dX8_init_19 : decode cX8_init 19 = .ok (.putfield 15, 3) := by decide +kernel
theorem dX8_init_22 : decode cX8_init 22 = .ok (.aload_n 0, 1) := by decide +kernel
theorem dX8_init_23 : decode cX8_init 23 = .ok (.sipush 1001, 3) := by decide +kernel
theorem dX8_init_26 : decode cX8_init 26 = .ok (.newarray .int, 2) := by decide +kernel
theorem dX8_init_28 : decode cX8_init 28 = .ok (.putfield 19, 3) := by decide +kernel
theorem dX8_init_31 : decode cX8_init 31 = .ok (.aload_n 0, 1) := by decide +kernel
theorem dX8_init_32 : decode cX8_init 32 = .ok (.sipush 1001, 3) := by decide +kernel
theorem dX8_init_35 : decode cX8_init 35 = .ok (.newarray .long, 2) := by decide +kernel
theorem dX8_init_37 : decode cX8_init 37 = .ok (.putfield 22, 3) := by decide +kernel
theorem dX8_init_40 : decode cX8_init 40 = .ok (.aload_n 0, 1) := by decide +kernel
theorem dX8_init_41 : decode cX8_init 41 = .ok (.iconst 0, 1) := by decide +kernel
theorem dX8_init_42 : decode cX8_init 42 = .ok (.putfield 26, 3) := by decide +kernel
theorem dX8_init_45 : decode cX8_init 45 = .ok (.aload_n 0, 1) := by decide +kernel
theorem dX8_init_46 : decode cX8_init 46 = .ok (.iconst 0, 1) := by decide +kernel
theorem dX8_init_47 : decode cX8_init 47 = .ok (.putfield 30, 3) := by decide +kernel
theorem dX8_init_50 : decode cX8_init 50 = .ok (.aload_n 0, 1) := by decide +kernel
theorem dX8_init_51 : decode cX8_init 51 = .ok (.iconst 0, 1) := by decide +kernel
theorem dX8_init_52 : decode cX8_init 52 = .ok (.putfield 33, 3) := by decide +kernel
theorem dX8_init_55 : decode cX8_init 55 = .ok (.aload_n 0, 1) := by decide +kernel
theorem dX8_init_56 : decode cX8_init 56 = .ok (.iconst 0, 1) := by decide +kernel
theorem dX8_init_57 : decode cX8_init 57 = .ok (.putfield 36, 3) := by decide +kernel
theorem dX8_init_60 : decode cX8_init 60 = .ok (.return_, 1) := by decide +kernel
theorem dX8_append_0 : decode cX8_append 0 = .ok (.bipush 56, 2) := by decide +kernel
theorem dX8_append_2 : decode cX8_append 2 = .ok (.istore_n 3, 1) := by decide +kernel
theorem dX8_append_3 : decode cX8_append 3 = .ok (.iload_n 3, 1) := by decide +kernel
theorem dX8_append_4 : decode cX8_append 4 = .ok (.ifCond .lt 86, 3) := by decide +kernel
theorem dX8_append_7 : decode cX8_append 7 = .ok (.lload_n 1, 1) := by decide +kernel
theorem dX8_append_8 : decode cX8_append 8 = .ok (.iload_n 3, 1) := by decide +kernel
theorem dX8_append_9 : decode cX8_append 9 = .ok (.lushr, 1) := by decide +kernel
theorem dX8_append_10 : decode cX8_append 10 = .ok (.ldc2_w 39, 3) := by decide +kernel
theorem dX8_append_13 : decode cX8_append 13 = .ok (.land, 1) := by decide +kernel
theorem dX8_append_14 : decode cX8_append 14 = .ok (.l2i, 1) := by decide +kernel
theorem dX8_append_15 : decode cX8_append 15 = .ok (.istore 4, 2) := by decide +kernel
theorem dX8_append_17 : decode cX8_append 17 = .ok (.iload 4, 2) := by decide +kernel
theorem dX8_append_19 : decode cX8_append 19 = .ok (.bipush 10, 2) := by decide +kernel
theorem dX8_append_21 : decode cX8_append 21 = .ok (.if_icmp .eq 17, 3) := by decide +kernel
theorem dX8_append_24 : decode cX8_append 24 = .ok (.iload 4, 2) := by decide +kernel
theorem dX8_append_26 : decode cX8_append 26 = .ok (.bipush 32, 2) := by decide +kernel
theorem dX8_append_28 : decode cX8_append 28 = .ok (.if_icmp .lt 14, 3) := by decide +kernel
theorem dX8_append_31 : decode cX8_append 31 = .ok (.iload 4, 2) := by decide +kernel
theorem dX8_append_33 : decode cX8_append 33 = .ok (.bipush 126, 2) := by decide +kernel
theorem dX8_append_35 : decode cX8_append 35 = .ok (.if_icmp .gt 7, 3) := by decide +kernel
theorem dX8_append_38 : decode cX8_append 38 = .ok (.iconst 1, 1) := by decide +kernel
theorem dX8_append_39 : decode cX8_append 39 = .ok (.goto 4, 3) := by decide +kernel
theorem dX8_append_42 : decode cX8_append 42 = .ok (.iconst 0, 1) := by decide +kernel
theorem dX8_append_43 : decode cX8_append 43 = .ok (.istore 5, 2) := by decide +kernel
theorem dX8_append_45 : decode cX8_append 45 = .ok (.iload 5, 2) := by decide +kernel
theorem dX8_append_47 : decode cX8_append 47 = .ok (.ifCond .eq 37, 3) := by decide +kernel
theorem dX8_append_50 : decode cX8_append 50 = .ok (.aload_n 0, 1) := by decide +kernel
theorem dX8_append_51 : decode cX8_append 51 = .ok (.getfield 33, 3) := by decide +kernel
theorem dX8_append_54 : decode cX8_append 54 = .ok (.aload_n 0, 1) := by decide +kernel
theorem dX8_append_55 : decode cX8_append 55 = .ok (.getfield 9, 3) := by decide +kernel
theorem dX8_append_58 : decode cX8_append 58 = .ok (.arraylength, 1) := by decide +kernel
theorem dX8_append_59 : decode cX8_append 59 = .ok (.if_icmp .ge 25, 3) := by decide +kernel
theorem dX8_append_62 : decode cX8_append 62 = .ok (.aload_n 0, 1) := by decide +kernel
theorem dX8_append_63 : decode cX8_append 63 = .ok (.getfield 9, 3) := by decide +kernel
theorem dX8_append_66 : decode cX8_append 66 = .ok (.aload_n 0, 1) := by decide +kernel
theorem dX8_append_67 : decode cX8_append 67 = .ok (.getfield 33, 3) := by decide +kernel
theorem dX8_append_70 : decode cX8_append 70 = .ok (.iload 4, 2) := by decide +kernel
theorem dX8_append_72 : decode cX8_append 72 = .ok (.i2c, 1) := by decide +kernel
theorem dX8_append_73 : decode cX8_append 73 = .ok (.castore, 1) := by decide +kernel
theorem dX8_append_74 : decode cX8_append 74 = .ok (.aload_n 0, 1) := by decide +kernel
theorem dX8_append_75 : decode cX8_append 75 = .ok (.dup, 1) := by decide +kernel
theorem dX8_append_76 : decode cX8_append 76 = .ok (.getfield 33, 3) := by decide +kernel
theorem dX8_append_79 : decode cX8_append 79 = .ok (.iconst 1, 1) := by decide +kernel
theorem dX8_append_80 : decode cX8_append 80 = .ok (.iadd, 1) := by decide +kernel
theorem dX8_append_81 : decode cX8_append 81 = .ok (.putfield 33, 3) := by decide +kernel
theorem dX8_append_84 : decode cX8_append 84 = .ok (.iinc 3 (-8), 3) := by decide +kernel
theorem dX8_append_87 : decode cX8_append 87 = .ok (.goto (-84), 3) := by decide +kernel
theorem dX8_append_90 : decode cX8_append 90 = .ok (.return_, 1) := by decide +kernel
theorem dX8_open_0 : decode cX8_open 0 = .ok (.aload_n 0, 1) := by decide +kernel
theorem dX8_open_1 : decode cX8_open 1 = .ok (.iconst 0, 1) := by decide +kernel
theorem dX8_open_2 : decode cX8_open 2 = .ok (.putfield 26, 3) := by decide +kernel
theorem dX8_open_5 : decode cX8_open 5 = .ok (.aload_n 0, 1) := by decide +kernel
theorem dX8_open_6 : decode cX8_open 6 = .ok (.iconst 0, 1) := by decide +kernel
theorem dX8_open_7 : decode cX8_open 7 = .ok (.putfield 30, 3) := by decide +kernel
theorem dX8_open_10 : decode cX8_open 10 = .ok (.aload_n 0, 1) := by decide +kernel
theorem dX8_open_11 : decode cX8_open 11 = .ok (.iconst 0, 1) := by decide +kernel
theorem dX8_open_12 : decode cX8_open 12 = .ok (.putfield 36, 3) := by decide +kernel
theorem dX8_open_15 : decode cX8_open 15 = .ok (.iconst 0, 1) := by decide +kernel
theorem dX8_open_16 : decode cX8_open 16 = .ok (.istore_n 1, 1) := by decide +kernel
theorem dX8_open_17 : decode cX8_open 17 = .ok (.iconst 0, 1) := by decide +kernel
theorem dX8_open_18 : decode cX8_open 18 = .ok (.istore_n 2, 1) := by decide +kernel
theorem dX8_open_19 : decode cX8_open 19 = .ok (.iload_n 2, 1) := by decide +kernel
theorem dX8_open_20 : decode cX8_open 20 = .ok (.sipush 1000, 3) := by decide +kernel
theorem dX8_open_23 : decode cX8_open 23 = .ok (.if_icmp .ge 41, 3) := by decide +kernel
theorem dX8_open_26 : decode cX8_open 26 = .ok (.iload_n 1, 1) := by decide +kernel
theorem dX8_open_27 : decode cX8_open 27 = .ok (.aload_n 0, 1) := by decide +kernel
theorem dX8_open_28 : decode cX8_open 28 = .ok (.getfield 33, 3) := by decide +kernel
theorem dX8_open_31 : decode cX8_open 31 = .ok (.if_icmp .ge 33, 3) := by decide +kernel
theorem dX8_open_34 : decode cX8_open 34 = .ok (.aload_n 0, 1) := by decide +kernel
theorem dX8_open_35 : decode cX8_open 35 = .ok (.getfield 9, 3) := by decide +kernel
theorem dX8_open_38 : decode cX8_open 38 = .ok (.iload_n 1, 1) := by decide +kernel
theorem dX8_open_39 : decode cX8_open 39 = .ok (.caload, 1) := by decide +kernel
theorem dX8_open_40 : decode cX8_open 40 = .ok (.invokestatic 41, 3) := by decide +kernel
theorem dX8_open_43 : decode cX8_open 43 = .ok (.ifCond .eq 9, 3) := by decide +kernel
theorem dX8_open_46 : decode cX8_open 46 = .ok (.iload_n 1, 1) := by decide +kernel
theorem dX8_open_47 : decode cX8_open 47 = .ok (.iconst 1, 1) := by decide +kernel
theorem dX8_open_48 : decode cX8_open 48 = .ok (.iadd, 1) := by decide +kernel
theorem dX8_open_49 : decode cX8_open 49 = .ok (.goto 8, 3) := by decide +kernel
theorem dX8_open_52 : decode cX8_open 52 = .ok (.aload_n 0, 1) := by decide +kernel
theorem dX8_open_53 : decode cX8_open 53 = .ok (.iload_n 1, 1) := by decide +kernel
theorem dX8_open_54 : decode cX8_open 54 = .ok (.invokevirtual 45, 3) := by decide +kernel
theorem dX8_open_57 : decode cX8_open 57 = .ok (.istore_n 1, 1) := by decide +kernel
theorem dX8_open_58 : decode cX8_open 58 = .ok (.iinc 2 1, 3) := by decide +kernel
theorem dX8_open_61 : decode cX8_open 61 = .ok (.goto (-42), 3) := by decide +kernel
theorem dX8_open_64 : decode cX8_open 64 = .ok (.aload_n 0, 1) := by decide +kernel
theorem dX8_open_65 : decode cX8_open 65 = .ok (.iconst 0, 1) := by decide +kernel
theorem dX8_open_66 : decode cX8_open 66 = .ok (.aload_n 0, 1) := by decide +kernel
theorem dX8_open_67 : decode cX8_open 67 = .ok (.getfield 33, 3) := by decide +kernel
theorem dX8_open_70 : decode cX8_open 70 = .ok (.lconst 0, 1) := by decide +kernel
theorem dX8_open_71 : decode cX8_open 71 = .ok (.invokevirtual 49, 3) := by decide +kernel
theorem dX8_open_74 : decode cX8_open 74 = .ok (.return_, 1) := by decide +kernel
theorem dX8_close_0 : decode cX8_close 0 = .ok (.aload_n 0, 1) := by decide +kernel
theorem dX8_close_1 : decode cX8_close 1 = .ok (.iconst 0, 1) := by decide +kernel
theorem dX8_close_2 : decode cX8_close 2 = .ok (.putfield 33, 3) := by decide +kernel
theorem dX8_close_5 : decode cX8_close 5 = .ok (.aload_n 0, 1) := by decide +kernel
theorem dX8_close_6 : decode cX8_close 6 = .ok (.getfield 36, 3) := by decide +kernel
theorem dX8_close_9 : decode cX8_close 9 = .ok (.ireturn, 1) := by decide +kernel
theorem dX8_addToken_0 : decode cX8_addToken 0 = .ok (.aload_n 0, 1) := by decide +kernel
theorem dX8_addToken_1 : decode cX8_addToken 1 = .ok (.getfield 26, 3) := by decide +kernel
theorem dX8_addToken_4 : decode cX8_addToken 4 = .ok (.aload_n 0, 1) := by decide +kernel
theorem dX8_addToken_5 : decode cX8_addToken 5 = .ok (.getfield 15, 3) := by decide +kernel
theorem dX8_addToken_8 : decode cX8_addToken 8 = .ok (.arraylength, 1) := by decide +kernel
theorem dX8_addToken_9 : decode cX8_addToken 9 = .ok (.if_icmp .ge 43, 3) := by decide +kernel
theorem dX8_addToken_12 : decode cX8_addToken 12 = .ok (.aload_n 0, 1) := by decide +kernel
theorem dX8_addToken_13 : decode cX8_addToken 13 = .ok (.getfield 15, 3) := by decide +kernel
theorem dX8_addToken_16 : decode cX8_addToken 16 = .ok (.aload_n 0, 1) := by decide +kernel
theorem dX8_addToken_17 : decode cX8_addToken 17 = .ok (.getfield 26, 3) := by decide +kernel
theorem dX8_addToken_20 : decode cX8_addToken 20 = .ok (.iload_n 1, 1) := by decide +kernel
theorem dX8_addToken_21 : decode cX8_addToken 21 = .ok (.iastore, 1) := by decide +kernel
theorem dX8_addToken_22 : decode cX8_addToken 22 = .ok (.aload_n 0, 1) := by decide +kernel
theorem dX8_addToken_23 : decode cX8_addToken 23 = .ok (.getfield 19, 3) := by decide +kernel
theorem dX8_addToken_26 : decode cX8_addToken 26 = .ok (.aload_n 0, 1) := by decide +kernel
theorem dX8_addToken_27 : decode cX8_addToken 27 = .ok (.getfield 26, 3) := by decide +kernel
theorem dX8_addToken_30 : decode cX8_addToken 30 = .ok (.iload_n 2, 1) := by decide +kernel
theorem dX8_addToken_31 : decode cX8_addToken 31 = .ok (.iastore, 1) := by decide +kernel
theorem dX8_addToken_32 : decode cX8_addToken 32 = .ok (.aload_n 0, 1) := by decide +kernel
theorem dX8_addToken_33 : decode cX8_addToken 33 = .ok (.getfield 22, 3) := by decide +kernel
theorem dX8_addToken_36 : decode cX8_addToken 36 = .ok (.aload_n 0, 1) := by decide +kernel
theorem dX8_addToken_37 : decode cX8_addToken 37 = .ok (.getfield 26, 3) := by decide +kernel
theorem dX8_addToken_40 : decode cX8_addToken 40 = .ok (.lload_n 3, 1) := by decide +kernel
theorem dX8_addToken_41 : decode cX8_addToken 41 = .ok (.lastore, 1) := by decide +kernel
theorem dX8_addToken_42 : decode cX8_addToken 42 = .ok (.aload_n 0, 1) := by decide +kernel
theorem dX8_addToken_43 : decode cX8_addToken 43 = .ok (.dup, 1) := by decide +kernel
theorem dX8_addToken_44 : decode cX8_addToken 44 = .ok (.getfield 26, 3) := by decide +kernel
theorem dX8_addToken_47 : decode cX8_addToken 47 = .ok (.iconst 1, 1) := by decide +kernel
theorem dX8_addToken_48 : decode cX8_addToken 48 = .ok (.iadd, 1) := by decide +kernel
theorem dX8_addToken_49 : decode cX8_addToken 49 = .ok (.putfield 26, 3) := by decide +kernel
theorem dX8_addToken_52 : decode cX8_addToken 52 = .ok (.return_, 1) := by decide +kernel
theorem dX8_scan_0 : decode cX8_scan 0 = .ok (.aload_n 0, 1) := by decide +kernel
theorem dX8_scan_1 : decode cX8_scan 1 = .ok (.getfield 9, 3) := by decide +kernel
theorem dX8_scan_4 : decode cX8_scan 4 = .ok (.iload_n 1, 1) := by decide +kernel
theorem dX8_scan_5 : decode cX8_scan 5 = .ok (.caload, 1) := by decide +kernel
theorem dX8_scan_6 : decode cX8_scan 6 = .ok (.istore_n 2, 1) := by decide +kernel
theorem dX8_scan_7 : decode cX8_scan 7 = .ok (.iload_n 2, 1) := by decide +kernel
theorem dX8_scan_8 : decode cX8_scan 8 = .ok (.invokestatic 53, 3) := by decide +kernel
theorem dX8_scan_11 : decode cX8_scan 11 = .ok (.ifCond .eq 9, 3) := by decide +kernel
theorem dX8_scan_14 : decode cX8_scan 14 = .ok (.aload_n 0, 1) := by decide +kernel
theorem dX8_scan_15 : decode cX8_scan 15 = .ok (.iload_n 1, 1) := by decide +kernel
theorem dX8_scan_16 : decode cX8_scan 16 = .ok (.invokevirtual 56, 3) := by decide +kernel
theorem dX8_scan_19 : decode cX8_scan 19 = .ok (.ireturn, 1) := by decide +kernel
theorem dX8_scan_20 : decode cX8_scan 20 = .ok (.iload_n 2, 1) := by decide +kernel
theorem dX8_scan_21 : decode cX8_scan 21 = .ok (.invokestatic 59, 3) := by decide +kernel
theorem dX8_scan_24 : decode cX8_scan 24 = .ok (.ifCond .eq 9, 3) := by decide +kernel
theorem dX8_scan_27 : decode cX8_scan 27 = .ok (.aload_n 0, 1) := by decide +kernel
theorem dX8_scan_28 : decode cX8_scan 28 = .ok (.iload_n 1, 1) := by decide +kernel
theorem dX8_scan_29 : decode cX8_scan 29 = .ok (.invokevirtual 62, 3) := by decide +kernel
theorem dX8_scan_32 : decode cX8_scan 32 = .ok (.ireturn, 1) := by decide +kernel
theorem dX8_scan_33 : decode cX8_scan 33 = .ok (.aload_n 0, 1) := by decide +kernel
theorem dX8_scan_34 : decode cX8_scan 34 = .ok (.ldc 65, 2) := by decide +kernel
theorem dX8_scan_36 : decode cX8_scan 36 = .ok (.iload_n 2, 1) := by decide +kernel
theorem dX8_scan_37 : decode cX8_scan 37 = .ok (.invokevirtual 67, 3) := by decide +kernel
theorem dX8_scan_40 : decode cX8_scan 40 = .ok (.ifCond .lt 7, 3) := by decide +kernel
theorem dX8_scan_43 : decode cX8_scan 43 = .ok (.iconst 5, 1) := by decide +kernel
theorem dX8_scan_44 : decode cX8_scan 44 = .ok (.goto 4, 3) := by decide +kernel
theorem dX8_scan_47 : decode cX8_scan 47 = .ok (.iconst 1, 1) := by decide +kernel
theorem dX8_scan_48 : decode cX8_scan 48 = .ok (.iload_n 1, 1) := by decide +kernel
theorem dX8_scan_49 : decode cX8_scan 49 = .ok (.iload_n 2, 1) := by decide +kernel
theorem dX8_scan_50 : decode cX8_scan 50 = .ok (.i2l, 1) := by decide +kernel
theorem dX8_scan_51 : decode cX8_scan 51 = .ok (.invokevirtual 49, 3) := by decide +kernel
theorem dX8_scan_54 : decode cX8_scan 54 = .ok (.iload_n 1, 1) := by decide +kernel
theorem dX8_scan_55 : decode cX8_scan 55 = .ok (.iconst 1, 1) := by decide +kernel
theorem dX8_scan_56 : decode cX8_scan 56 = .ok (.iadd, 1) := by decide +kernel
theorem dX8_scan_57 : decode cX8_scan 57 = .ok (.ireturn, 1) := by decide +kernel
theorem dX8_scanWord_0 : decode cX8_scanWord 0 = .ok (.lconst 0, 1) := by decide +kernel
theorem dX8_scanWord_1 : decode cX8_scanWord 1 = .ok (.lstore_n 2, 1) := by decide +kernel
theorem dX8_scanWord_2 : decode cX8_scanWord 2 = .ok (.iload_n 1, 1) := by decide +kernel
theorem dX8_scanWord_3 : decode cX8_scanWord 3 = .ok (.istore 4, 2) := by decide +kernel
theorem dX8_scanWord_5 : decode cX8_scanWord 5 = .ok (.iload 4, 2) := by decide +kernel
theorem dX8_scanWord_7 : decode cX8_scanWord 7 = .ok (.aload_n 0, 1) := by decide +kernel
theorem dX8_scanWord_8 : decode cX8_scanWord 8 = .ok (.getfield 33, 3) := by decide +kernel
theorem dX8_scanWord_11 : decode cX8_scanWord 11 = .ok (.if_icmp .ge 34, 3) := by decide +kernel
theorem dX8_scanWord_14 : decode cX8_scanWord 14 = .ok (.aload_n 0, 1) := by decide +kernel
theorem dX8_scanWord_15 : decode cX8_scanWord 15 = .ok (.getfield 9, 3) := by decide +kernel
theorem dX8_scanWord_18 : decode cX8_scanWord 18 = .ok (.iload 4, 2) := by decide +kernel
theorem dX8_scanWord_20 : decode cX8_scanWord 20 = .ok (.caload, 1) := by decide +kernel
theorem dX8_scanWord_21 : decode cX8_scanWord 21 = .ok (.invokestatic 53, 3) := by decide +kernel
theorem dX8_scanWord_24 : decode cX8_scanWord 24 = .ok (.ifCond .eq 21, 3) := by decide +kernel
theorem dX8_scanWord_27 : decode cX8_scanWord 27 = .ok (.lload_n 2, 1) := by decide +kernel
theorem dX8_scanWord_28 : decode cX8_scanWord 28 = .ok (.aload_n 0, 1) := by decide +kernel
theorem dX8_scanWord_29 : decode cX8_scanWord 29 = .ok (.getfield 9, 3) := by decide +kernel
theorem dX8_scanWord_32 : decode cX8_scanWord 32 = .ok (.iload 4, 2) := by decide +kernel
theorem dX8_scanWord_34 : decode cX8_scanWord 34 = .ok (.caload, 1) := by decide +kernel
theorem dX8_scanWord_35 : decode cX8_scanWord 35 = .ok (.invokestatic 72, 3) := by decide +kernel
theorem dX8_scanWord_38 : decode cX8_scanWord 38 = .ok (.lstore_n 2, 1) := by decide +kernel
theorem dX8_scanWord_39 : decode cX8_scanWord 39 = .ok (.iinc 4 1, 3) := by decide +kernel
theorem dX8_scanWord_42 : decode cX8_scanWord 42 = .ok (.goto (-37), 3) := by decide +kernel
theorem dX8_scanWord_45 : decode cX8_scanWord 45 = .ok (.lload_n 2, 1) := by decide +kernel
theorem dX8_scanWord_46 : decode cX8_scanWord 46 = .ok (.invokestatic 78, 3) := by decide +kernel
theorem dX8_scanWord_49 : decode cX8_scanWord 49 = .ok (.getfield 82, 3) := by decide +kernel
theorem dX8_scanWord_52 : decode cX8_scanWord 52 = .ok (.ifCond .eq 7, 3) := by decide +kernel
theorem dX8_scanWord_55 : decode cX8_scanWord 55 = .ok (.iconst 3, 1) := by decide +kernel
theorem dX8_scanWord_56 : decode cX8_scanWord 56 = .ok (.goto 4, 3) := by decide +kernel
theorem dX8_scanWord_59 : decode cX8_scanWord 59 = .ok (.iconst 2, 1) := by decide +kernel
theorem dX8_scanWord_60 : decode cX8_scanWord 60 = .ok (.istore 5, 2) := by decide +kernel
theorem dX8_scanWord_62 : decode cX8_scanWord 62 = .ok (.aload_n 0, 1) := by decide +kernel
theorem dX8_scanWord_63 : decode cX8_scanWord 63 = .ok (.iload 4, 2) := by decide +kernel
theorem dX8_scanWord_65 : decode cX8_scanWord 65 = .ok (.iload_n 1, 1) := by decide +kernel
theorem dX8_scanWord_66 : decode cX8_scanWord 66 = .ok (.isub, 1) := by decide +kernel
theorem dX8_scanWord_67 : decode cX8_scanWord 67 = .ok (.bipush 8, 2) := by decide +kernel
theorem dX8_scanWord_69 : decode cX8_scanWord 69 = .ok (.if_icmp .gt 8, 3) := by decide +kernel
theorem dX8_scanWord_72 : decode cX8_scanWord 72 = .ok (.iload 5, 2) := by decide +kernel
theorem dX8_scanWord_74 : decode cX8_scanWord 74 = .ok (.goto 4, 3) := by decide +kernel
theorem dX8_scanWord_77 : decode cX8_scanWord 77 = .ok (.iconst 1, 1) := by decide +kernel
theorem dX8_scanWord_78 : decode cX8_scanWord 78 = .ok (.iload_n 1, 1) := by decide +kernel
theorem dX8_scanWord_79 : decode cX8_scanWord 79 = .ok (.lload_n 2, 1) := by decide +kernel
theorem dX8_scanWord_80 : decode cX8_scanWord 80 = .ok (.invokevirtual 49, 3) := by decide +kernel
theorem dX8_scanWord_83 : decode cX8_scanWord 83 = .ok (.iload 4, 2) := by decide +kernel
theorem dX8_scanWord_85 : decode cX8_scanWord 85 = .ok (.ireturn, 1) := by decide +kernel
theorem dX8_scanNumber_0 : decode cX8_scanNumber 0 = .ok (.lconst 0, 1) := by decide +kernel
theorem dX8_scanNumber_1 : decode cX8_scanNumber 1 = .ok (.lstore_n 2, 1) := by decide +kernel
theorem dX8_scanNumber_2 : decode cX8_scanNumber 2 = .ok (.iload_n 1, 1) := by decide +kernel
theorem dX8_scanNumber_3 : decode cX8_scanNumber 3 = .ok (.istore 4, 2) := by decide +kernel
theorem dX8_scanNumber_5 : decode cX8_scanNumber 5 = .ok (.iload 4, 2) := by decide +kernel
theorem dX8_scanNumber_7 : decode cX8_scanNumber 7 = .ok (.aload_n 0, 1) := by decide +kernel
theorem dX8_scanNumber_8 : decode cX8_scanNumber 8 = .ok (.getfield 33, 3) := by decide +kernel
theorem dX8_scanNumber_11 : decode cX8_scanNumber 11 = .ok (.if_icmp .ge 40, 3) := by decide +kernel
theorem dX8_scanNumber_14 : decode cX8_scanNumber 14 = .ok (.aload_n 0, 1) := by decide +kernel
theorem dX8_scanNumber_15 : decode cX8_scanNumber 15 = .ok (.getfield 9, 3) := by decide +kernel
theorem dX8_scanNumber_18 : decode cX8_scanNumber 18 = .ok (.iload 4, 2) := by decide +kernel
theorem dX8_scanNumber_20 : decode cX8_scanNumber 20 = .ok (.caload, 1) := by decide +kernel
theorem dX8_scanNumber_21 : decode cX8_scanNumber 21 = .ok (.invokestatic 59, 3) := by decide +kernel
theorem dX8_scanNumber_24 : decode cX8_scanNumber 24 = .ok (.ifCond .eq 27, 3) := by decide +kernel
theorem dX8_scanNumber_27 : decode cX8_scanNumber 27 = .ok (.lload_n 2, 1) := by decide +kernel
theorem dX8_scanNumber_28 : decode cX8_scanNumber 28 = .ok (.ldc2_w 86, 3) := by decide +kernel
theorem dX8_scanNumber_31 : decode cX8_scanNumber 31 = .ok (.lmul, 1) := by decide +kernel
theorem dX8_scanNumber_32 : decode cX8_scanNumber 32 = .ok (.aload_n 0, 1) := by decide +kernel
theorem dX8_scanNumber_33 : decode cX8_scanNumber 33 = .ok (.getfield 9, 3) := by decide +kernel
theorem dX8_scanNumber_36 : decode cX8_scanNumber 36 = .ok (.iload 4, 2) := by decide +kernel
theorem dX8_scanNumber_38 : decode cX8_scanNumber 38 = .ok (.caload, 1) := by decide +kernel
theorem dX8_scanNumber_39 : decode cX8_scanNumber 39 = .ok (.bipush 48, 2) := by decide +kernel
theorem dX8_scanNumber_41 : decode cX8_scanNumber 41 = .ok (.isub, 1) := by decide +kernel
theorem dX8_scanNumber_42 : decode cX8_scanNumber 42 = .ok (.i2l, 1) := by decide +kernel
theorem dX8_scanNumber_43 : decode cX8_scanNumber 43 = .ok (.ladd, 1) := by decide +kernel
theorem dX8_scanNumber_44 : decode cX8_scanNumber 44 = .ok (.lstore_n 2, 1) := by decide +kernel
theorem dX8_scanNumber_45 : decode cX8_scanNumber 45 = .ok (.iinc 4 1, 3) := by decide +kernel
theorem dX8_scanNumber_48 : decode cX8_scanNumber 48 = .ok (.goto (-43), 3) := by decide +kernel
theorem dX8_scanNumber_51 : decode cX8_scanNumber 51 = .ok (.aload_n 0, 1) := by decide +kernel
theorem dX8_scanNumber_52 : decode cX8_scanNumber 52 = .ok (.iload 4, 2) := by decide +kernel
theorem dX8_scanNumber_54 : decode cX8_scanNumber 54 = .ok (.iload_n 1, 1) := by decide +kernel
theorem dX8_scanNumber_55 : decode cX8_scanNumber 55 = .ok (.isub, 1) := by decide +kernel
theorem dX8_scanNumber_56 : decode cX8_scanNumber 56 = .ok (.iconst 4, 1) := by decide +kernel
theorem dX8_scanNumber_57 : decode cX8_scanNumber 57 = .ok (.if_icmp .gt 7, 3) := by decide +kernel
theorem dX8_scanNumber_60 : decode cX8_scanNumber 60 = .ok (.iconst 4, 1) := by decide +kernel
theorem dX8_scanNumber_61 : decode cX8_scanNumber 61 = .ok (.goto 4, 3) := by decide +kernel
theorem dX8_scanNumber_64 : decode cX8_scanNumber 64 = .ok (.iconst 1, 1) := by decide +kernel
theorem dX8_scanNumber_65 : decode cX8_scanNumber 65 = .ok (.iload_n 1, 1) := by decide +kernel
theorem dX8_scanNumber_66 : decode cX8_scanNumber 66 = .ok (.lload_n 2, 1) := by decide +kernel
theorem dX8_scanNumber_67 : decode cX8_scanNumber 67 = .ok (.invokevirtual 49, 3) := by decide +kernel
theorem dX8_scanNumber_70 : decode cX8_scanNumber 70 = .ok (.iload 4, 2) := by decide +kernel
theorem dX8_scanNumber_72 : decode cX8_scanNumber 72 = .ok (.ireturn, 1) := by decide +kernel
theorem dX8_isBlank_0 : decode cX8_isBlank 0 = .ok (.iload_n 0, 1) := by decide +kernel
theorem dX8_isBlank_1 : decode cX8_isBlank 1 = .ok (.bipush 10, 2) := by decide +kernel
theorem dX8_isBlank_3 : decode cX8_isBlank 3 = .ok (.if_icmp .eq 9, 3) := by decide +kernel
theorem dX8_isBlank_6 : decode cX8_isBlank 6 = .ok (.iload_n 0, 1) := by decide +kernel
theorem dX8_isBlank_7 : decode cX8_isBlank 7 = .ok (.bipush 32, 2) := by decide +kernel
theorem dX8_isBlank_9 : decode cX8_isBlank 9 = .ok (.if_icmp .ne 7, 3) := by decide +kernel
theorem dX8_isBlank_12 : decode cX8_isBlank 12 = .ok (.iconst 1, 1) := by decide +kernel
theorem dX8_isBlank_13 : decode cX8_isBlank 13 = .ok (.goto 4, 3) := by decide +kernel
theorem dX8_isBlank_16 : decode cX8_isBlank 16 = .ok (.iconst 0, 1) := by decide +kernel
theorem dX8_isBlank_17 : decode cX8_isBlank 17 = .ok (.ireturn, 1) := by decide +kernel
theorem dX8_isLetter_0 : decode cX8_isLetter 0 = .ok (.iload_n 0, 1) := by decide +kernel
theorem dX8_isLetter_1 : decode cX8_isLetter 1 = .ok (.bipush 97, 2) := by decide +kernel
theorem dX8_isLetter_3 : decode cX8_isLetter 3 = .ok (.if_icmp .lt 13, 3) := by decide +kernel
theorem dX8_isLetter_6 : decode cX8_isLetter 6 = .ok (.iload_n 0, 1) := by decide +kernel
theorem dX8_isLetter_7 : decode cX8_isLetter 7 = .ok (.bipush 122, 2) := by decide +kernel
theorem dX8_isLetter_9 : decode cX8_isLetter 9 = .ok (.if_icmp .gt 7, 3) := by decide +kernel
theorem dX8_isLetter_12 : decode cX8_isLetter 12 = .ok (.iconst 1, 1) := by decide +kernel
theorem dX8_isLetter_13 : decode cX8_isLetter 13 = .ok (.goto 4, 3) := by decide +kernel
theorem dX8_isLetter_16 : decode cX8_isLetter 16 = .ok (.iconst 0, 1) := by decide +kernel
theorem dX8_isLetter_17 : decode cX8_isLetter 17 = .ok (.ireturn, 1) := by decide +kernel
theorem dX8_isDigit_0 : decode cX8_isDigit 0 = .ok (.iload_n 0, 1) := by decide +kernel
theorem dX8_isDigit_1 : decode cX8_isDigit 1 = .ok (.bipush 48, 2) := by decide +kernel
theorem dX8_isDigit_3 : decode cX8_isDigit 3 = .ok (.if_icmp .lt 13, 3) := by decide +kernel
theorem dX8_isDigit_6 : decode cX8_isDigit 6 = .ok (.iload_n 0, 1) := by decide +kernel
theorem dX8_isDigit_7 : decode cX8_isDigit 7 = .ok (.bipush 57, 2) := by decide +kernel
theorem dX8_isDigit_9 : decode cX8_isDigit 9 = .ok (.if_icmp .gt 7, 3) := by decide +kernel
theorem dX8_isDigit_12 : decode cX8_isDigit 12 = .ok (.iconst 1, 1) := by decide +kernel
theorem dX8_isDigit_13 : decode cX8_isDigit 13 = .ok (.goto 4, 3) := by decide +kernel
theorem dX8_isDigit_16 : decode cX8_isDigit 16 = .ok (.iconst 0, 1) := by decide +kernel
theorem dX8_isDigit_17 : decode cX8_isDigit 17 = .ok (.ireturn, 1) := by decide +kernel
theorem dX8_goesOn_0 : decode cX8_goesOn 0 = .ok (.aload_n 0, 1) := by decide +kernel
theorem dX8_goesOn_1 : decode cX8_goesOn 1 = .ok (.getfield 36, 3) := by decide +kernel
theorem dX8_goesOn_4 : decode cX8_goesOn 4 = .ok (.ifCond .ne 19, 3) := by decide +kernel
theorem dX8_goesOn_7 : decode cX8_goesOn 7 = .ok (.aload_n 0, 1) := by decide +kernel
theorem dX8_goesOn_8 : decode cX8_goesOn 8 = .ok (.getfield 15, 3) := by decide +kernel
theorem dX8_goesOn_11 : decode cX8_goesOn 11 = .ok (.aload_n 0, 1) := by decide +kernel
theorem dX8_goesOn_12 : decode cX8_goesOn 12 = .ok (.getfield 30, 3) := by decide +kernel
theorem dX8_goesOn_15 : decode cX8_goesOn 15 = .ok (.iaload, 1) := by decide +kernel
theorem dX8_goesOn_16 : decode cX8_goesOn 16 = .ok (.ifCond .eq 7, 3) := by decide +kernel
theorem dX8_goesOn_19 : decode cX8_goesOn 19 = .ok (.iconst 1, 1) := by decide +kernel
theorem dX8_goesOn_20 : decode cX8_goesOn 20 = .ok (.goto 4, 3) := by decide +kernel
theorem dX8_goesOn_23 : decode cX8_goesOn 23 = .ok (.iconst 0, 1) := by decide +kernel
theorem dX8_goesOn_24 : decode cX8_goesOn 24 = .ok (.ireturn, 1) := by decide +kernel
theorem dX8_fail_0 : decode cX8_fail 0 = .ok (.aload_n 0, 1) := by decide +kernel
theorem dX8_fail_1 : decode cX8_fail 1 = .ok (.getfield 36, 3) := by decide +kernel
theorem dX8_fail_4 : decode cX8_fail 4 = .ok (.ifCond .ne 21, 3) := by decide +kernel
theorem dX8_fail_7 : decode cX8_fail 7 = .ok (.aload_n 0, 1) := by decide +kernel
theorem dX8_fail_8 : decode cX8_fail 8 = .ok (.iload_n 1, 1) := by decide +kernel
theorem dX8_fail_9 : decode cX8_fail 9 = .ok (.bipush 16, 2) := by decide +kernel
theorem dX8_fail_11 : decode cX8_fail 11 = .ok (.aload_n 0, 1) := by decide +kernel
theorem dX8_fail_12 : decode cX8_fail 12 = .ok (.getfield 19, 3) := by decide +kernel
theorem dX8_fail_15 : decode cX8_fail 15 = .ok (.aload_n 0, 1) := by decide +kernel
theorem dX8_fail_16 : decode cX8_fail 16 = .ok (.getfield 30, 3) := by decide +kernel
theorem dX8_fail_19 : decode cX8_fail 19 = .ok (.iaload, 1) := by decide +kernel
theorem dX8_fail_20 : decode cX8_fail 20 = .ok (.imul, 1) := by decide +kernel
theorem dX8_fail_21 : decode cX8_fail 21 = .ok (.iadd, 1) := by decide +kernel
theorem dX8_fail_22 : decode cX8_fail 22 = .ok (.putfield 36, 3) := by decide +kernel
theorem dX8_fail_25 : decode cX8_fail 25 = .ok (.return_, 1) := by decide +kernel
theorem dX8_isAt_0 : decode cX8_isAt 0 = .ok (.aload_n 0, 1) := by decide +kernel
theorem dX8_isAt_1 : decode cX8_isAt 1 = .ok (.getfield 36, 3) := by decide +kernel
theorem dX8_isAt_4 : decode cX8_isAt 4 = .ok (.ifCond .ne 35, 3) := by decide +kernel
theorem dX8_isAt_7 : decode cX8_isAt 7 = .ok (.aload_n 0, 1) := by decide +kernel
theorem dX8_isAt_8 : decode cX8_isAt 8 = .ok (.getfield 15, 3) := by decide +kernel
theorem dX8_isAt_11 : decode cX8_isAt 11 = .ok (.aload_n 0, 1) := by decide +kernel
theorem dX8_isAt_12 : decode cX8_isAt 12 = .ok (.getfield 30, 3) := by decide +kernel
theorem dX8_isAt_15 : decode cX8_isAt 15 = .ok (.iaload, 1) := by decide +kernel
theorem dX8_isAt_16 : decode cX8_isAt 16 = .ok (.iconst 5, 1) := by decide +kernel
theorem dX8_isAt_17 : decode cX8_isAt 17 = .ok (.if_icmp .ne 22, 3) := by decide +kernel
theorem dX8_isAt_20 : decode cX8_isAt 20 = .ok (.aload_n 0, 1) := by decide +kernel
theorem dX8_isAt_21 : decode cX8_isAt 21 = .ok (.getfield 22, 3) := by decide +kernel
theorem dX8_isAt_24 : decode cX8_isAt 24 = .ok (.aload_n 0, 1) := by decide +kernel
theorem dX8_isAt_25 : decode cX8_isAt 25 = .ok (.getfield 30, 3) := by decide +kernel
theorem dX8_isAt_28 : decode cX8_isAt 28 = .ok (.laload, 1) := by decide +kernel
theorem dX8_isAt_29 : decode cX8_isAt 29 = .ok (.iload_n 1, 1) := by decide +kernel
theorem dX8_isAt_30 : decode cX8_isAt 30 = .ok (.i2l, 1) := by decide +kernel
theorem dX8_isAt_31 : decode cX8_isAt 31 = .ok (.lcmp, 1) := by decide +kernel
theorem dX8_isAt_32 : decode cX8_isAt 32 = .ok (.ifCond .ne 7, 3) := by decide +kernel
theorem dX8_isAt_35 : decode cX8_isAt 35 = .ok (.iconst 1, 1) := by decide +kernel
theorem dX8_isAt_36 : decode cX8_isAt 36 = .ok (.goto 4, 3) := by decide +kernel
theorem dX8_isAt_39 : decode cX8_isAt 39 = .ok (.iconst 0, 1) := by decide +kernel
theorem dX8_isAt_40 : decode cX8_isAt 40 = .ok (.ireturn, 1) := by decide +kernel
theorem dX8_isAt__0 : decode cX8_isAt_ 0 = .ok (.aload_n 0, 1) := by decide +kernel
theorem dX8_isAt__1 : decode cX8_isAt_ 1 = .ok (.getfield 15, 3) := by decide +kernel
theorem dX8_isAt__4 : decode cX8_isAt_ 4 = .ok (.aload_n 0, 1) := by decide +kernel
theorem dX8_isAt__5 : decode cX8_isAt_ 5 = .ok (.getfield 30, 3) := by decide +kernel
theorem dX8_isAt__8 : decode cX8_isAt_ 8 = .ok (.iaload, 1) := by decide +kernel
theorem dX8_isAt__9 : decode cX8_isAt_ 9 = .ok (.iconst 2, 1) := by decide +kernel
theorem dX8_isAt__10 : decode cX8_isAt_ 10 = .ok (.if_icmp .eq 16, 3) := by decide +kernel
theorem dX8_isAt__13 : decode cX8_isAt_ 13 = .ok (.aload_n 0, 1) := by decide +kernel
theorem dX8_isAt__14 : decode cX8_isAt_ 14 = .ok (.getfield 15, 3) := by decide +kernel
theorem dX8_isAt__17 : decode cX8_isAt_ 17 = .ok (.aload_n 0, 1) := by decide +kernel
theorem dX8_isAt__18 : decode cX8_isAt_ 18 = .ok (.getfield 30, 3) := by decide +kernel
theorem dX8_isAt__21 : decode cX8_isAt_ 21 = .ok (.iaload, 1) := by decide +kernel
theorem dX8_isAt__22 : decode cX8_isAt_ 22 = .ok (.iconst 3, 1) := by decide +kernel
theorem dX8_isAt__23 : decode cX8_isAt_ 23 = .ok (.if_icmp .ne 7, 3) := by decide +kernel
theorem dX8_isAt__26 : decode cX8_isAt_ 26 = .ok (.iconst 1, 1) := by decide +kernel
theorem dX8_isAt__27 : decode cX8_isAt_ 27 = .ok (.goto 4, 3) := by decide +kernel
theorem dX8_isAt__30 : decode cX8_isAt_ 30 = .ok (.iconst 0, 1) := by decide +kernel
theorem dX8_isAt__31 : decode cX8_isAt_ 31 = .ok (.istore_n 2, 1) := by decide +kernel
theorem dX8_isAt__32 : decode cX8_isAt_ 32 = .ok (.aload_n 0, 1) := by decide +kernel
theorem dX8_isAt__33 : decode cX8_isAt_ 33 = .ok (.getfield 36, 3) := by decide +kernel
theorem dX8_isAt__36 : decode cX8_isAt_ 36 = .ok (.ifCond .ne 28, 3) := by decide +kernel
theorem dX8_isAt__39 : decode cX8_isAt_ 39 = .ok (.iload_n 2, 1) := by decide +kernel
theorem dX8_isAt__40 : decode cX8_isAt_ 40 = .ok (.ifCond .eq 24, 3) := by decide +kernel
theorem dX8_isAt__43 : decode cX8_isAt_ 43 = .ok (.aload_n 0, 1) := by decide +kernel
theorem dX8_isAt__44 : decode cX8_isAt_ 44 = .ok (.getfield 22, 3) := by decide +kernel
theorem dX8_isAt__47 : decode cX8_isAt_ 47 = .ok (.aload_n 0, 1) := by decide +kernel
theorem dX8_isAt__48 : decode cX8_isAt_ 48 = .ok (.getfield 30, 3) := by decide +kernel
theorem dX8_isAt__51 : decode cX8_isAt_ 51 = .ok (.laload, 1) := by decide +kernel
theorem dX8_isAt__52 : decode cX8_isAt_ 52 = .ok (.aload_n 1, 1) := by decide +kernel
theorem dX8_isAt__53 : decode cX8_isAt_ 53 = .ok (.getfield 88, 3) := by decide +kernel
theorem dX8_isAt__56 : decode cX8_isAt_ 56 = .ok (.lcmp, 1) := by decide +kernel
theorem dX8_isAt__57 : decode cX8_isAt_ 57 = .ok (.ifCond .ne 7, 3) := by decide +kernel
theorem dX8_isAt__60 : decode cX8_isAt_ 60 = .ok (.iconst 1, 1) := by decide +kernel
theorem dX8_isAt__61 : decode cX8_isAt_ 61 = .ok (.goto 4, 3) := by decide +kernel
theorem dX8_isAt__64 : decode cX8_isAt_ 64 = .ok (.iconst 0, 1) := by decide +kernel
theorem dX8_isAt__65 : decode cX8_isAt_ 65 = .ok (.ireturn, 1) := by decide +kernel
theorem dX8_isName_0 : decode cX8_isName 0 = .ok (.aload_n 0, 1) := by decide +kernel
theorem dX8_isName_1 : decode cX8_isName 1 = .ok (.getfield 36, 3) := by decide +kernel
theorem dX8_isName_4 : decode cX8_isName 4 = .ok (.ifCond .ne 20, 3) := by decide +kernel
theorem dX8_isName_7 : decode cX8_isName 7 = .ok (.aload_n 0, 1) := by decide +kernel
theorem dX8_isName_8 : decode cX8_isName 8 = .ok (.getfield 15, 3) := by decide +kernel
theorem dX8_isName_11 : decode cX8_isName 11 = .ok (.aload_n 0, 1) := by decide +kernel
theorem dX8_isName_12 : decode cX8_isName 12 = .ok (.getfield 30, 3) := by decide +kernel
theorem dX8_isName_15 : decode cX8_isName 15 = .ok (.iaload, 1) := by decide +kernel
theorem dX8_isName_16 : decode cX8_isName 16 = .ok (.iconst 2, 1) := by decide +kernel
theorem dX8_isName_17 : decode cX8_isName 17 = .ok (.if_icmp .ne 7, 3) := by decide +kernel
theorem dX8_isName_20 : decode cX8_isName 20 = .ok (.iconst 1, 1) := by decide +kernel
theorem dX8_isName_21 : decode cX8_isName 21 = .ok (.goto 4, 3) := by decide +kernel
theorem dX8_isName_24 : decode cX8_isName 24 = .ok (.iconst 0, 1) := by decide +kernel
theorem dX8_isName_25 : decode cX8_isName 25 = .ok (.ireturn, 1) := by decide +kernel
theorem dX8_isNumber_0 : decode cX8_isNumber 0 = .ok (.aload_n 0, 1) := by decide +kernel
theorem dX8_isNumber_1 : decode cX8_isNumber 1 = .ok (.getfield 36, 3) := by decide +kernel
theorem dX8_isNumber_4 : decode cX8_isNumber 4 = .ok (.ifCond .ne 20, 3) := by decide +kernel
theorem dX8_isNumber_7 : decode cX8_isNumber 7 = .ok (.aload_n 0, 1) := by decide +kernel
theorem dX8_isNumber_8 : decode cX8_isNumber 8 = .ok (.getfield 15, 3) := by decide +kernel
theorem dX8_isNumber_11 : decode cX8_isNumber 11 = .ok (.aload_n 0, 1) := by decide +kernel
theorem dX8_isNumber_12 : decode cX8_isNumber 12 = .ok (.getfield 30, 3) := by decide +kernel
theorem dX8_isNumber_15 : decode cX8_isNumber 15 = .ok (.iaload, 1) := by decide +kernel
theorem dX8_isNumber_16 : decode cX8_isNumber 16 = .ok (.iconst 4, 1) := by decide +kernel
theorem dX8_isNumber_17 : decode cX8_isNumber 17 = .ok (.if_icmp .ne 7, 3) := by decide +kernel
theorem dX8_isNumber_20 : decode cX8_isNumber 20 = .ok (.iconst 1, 1) := by decide +kernel
theorem dX8_isNumber_21 : decode cX8_isNumber 21 = .ok (.goto 4, 3) := by decide +kernel
theorem dX8_isNumber_24 : decode cX8_isNumber 24 = .ok (.iconst 0, 1) := by decide +kernel
theorem dX8_isNumber_25 : decode cX8_isNumber 25 = .ok (.ireturn, 1) := by decide +kernel
theorem dX8_word_0 : decode cX8_word 0 = .ok (.aload_n 0, 1) := by decide +kernel
theorem dX8_word_1 : decode cX8_word 1 = .ok (.getfield 36, 3) := by decide +kernel
theorem dX8_word_4 : decode cX8_word 4 = .ok (.ifCond .ne 31, 3) := by decide +kernel
theorem dX8_word_7 : decode cX8_word 7 = .ok (.aload_n 0, 1) := by decide +kernel
theorem dX8_word_8 : decode cX8_word 8 = .ok (.getfield 15, 3) := by decide +kernel
theorem dX8_word_11 : decode cX8_word 11 = .ok (.aload_n 0, 1) := by decide +kernel
theorem dX8_word_12 : decode cX8_word 12 = .ok (.getfield 30, 3) := by decide +kernel
theorem dX8_word_15 : decode cX8_word 15 = .ok (.iaload, 1) := by decide +kernel
theorem dX8_word_16 : decode cX8_word 16 = .ok (.iconst 3, 1) := by decide +kernel
theorem dX8_word_17 : decode cX8_word 17 = .ok (.if_icmp .ne 18, 3) := by decide +kernel
theorem dX8_word_20 : decode cX8_word 20 = .ok (.aload_n 0, 1) := by decide +kernel
theorem dX8_word_21 : decode cX8_word 21 = .ok (.getfield 22, 3) := by decide +kernel
theorem dX8_word_24 : decode cX8_word 24 = .ok (.aload_n 0, 1) := by decide +kernel
theorem dX8_word_25 : decode cX8_word 25 = .ok (.getfield 30, 3) := by decide +kernel
theorem dX8_word_28 : decode cX8_word 28 = .ok (.laload, 1) := by decide +kernel
theorem dX8_word_29 : decode cX8_word 29 = .ok (.invokestatic 78, 3) := by decide +kernel
theorem dX8_word_32 : decode cX8_word 32 = .ok (.goto 6, 3) := by decide +kernel
theorem dX8_word_35 : decode cX8_word 35 = .ok (.getstatic 92, 3) := by decide +kernel
theorem dX8_word_38 : decode cX8_word 38 = .ok (.areturn, 1) := by decide +kernel
theorem dX8_packed_0 : decode cX8_packed 0 = .ok (.aload_n 0, 1) := by decide +kernel
theorem dX8_packed_1 : decode cX8_packed 1 = .ok (.getfield 22, 3) := by decide +kernel
theorem dX8_packed_4 : decode cX8_packed 4 = .ok (.aload_n 0, 1) := by decide +kernel
theorem dX8_packed_5 : decode cX8_packed 5 = .ok (.getfield 30, 3) := by decide +kernel
theorem dX8_packed_8 : decode cX8_packed 8 = .ok (.laload, 1) := by decide +kernel
theorem dX8_packed_9 : decode cX8_packed 9 = .ok (.lreturn, 1) := by decide +kernel
theorem dX8_number_0 : decode cX8_number 0 = .ok (.aload_n 0, 1) := by decide +kernel
theorem dX8_number_1 : decode cX8_number 1 = .ok (.getfield 22, 3) := by decide +kernel
theorem dX8_number_4 : decode cX8_number 4 = .ok (.aload_n 0, 1) := by decide +kernel
theorem dX8_number_5 : decode cX8_number 5 = .ok (.getfield 30, 3) := by decide +kernel
theorem dX8_number_8 : decode cX8_number 8 = .ok (.laload, 1) := by decide +kernel
theorem dX8_number_9 : decode cX8_number 9 = .ok (.l2i, 1) := by decide +kernel
theorem dX8_number_10 : decode cX8_number 10 = .ok (.ireturn, 1) := by decide +kernel
theorem dX8_step_0 : decode cX8_step 0 = .ok (.aload_n 0, 1) := by decide +kernel
theorem dX8_step_1 : decode cX8_step 1 = .ok (.getfield 36, 3) := by decide +kernel
theorem dX8_step_4 : decode cX8_step 4 = .ok (.ifCond .ne 25, 3) := by decide +kernel
theorem dX8_step_7 : decode cX8_step 7 = .ok (.aload_n 0, 1) := by decide +kernel
theorem dX8_step_8 : decode cX8_step 8 = .ok (.getfield 15, 3) := by decide +kernel
theorem dX8_step_11 : decode cX8_step 11 = .ok (.aload_n 0, 1) := by decide +kernel
theorem dX8_step_12 : decode cX8_step 12 = .ok (.getfield 30, 3) := by decide +kernel
theorem dX8_step_15 : decode cX8_step 15 = .ok (.iaload, 1) := by decide +kernel
theorem dX8_step_16 : decode cX8_step 16 = .ok (.ifCond .eq 13, 3) := by decide +kernel
theorem dX8_step_19 : decode cX8_step 19 = .ok (.aload_n 0, 1) := by decide +kernel
theorem dX8_step_20 : decode cX8_step 20 = .ok (.dup, 1) := by decide +kernel
theorem dX8_step_21 : decode cX8_step 21 = .ok (.getfield 30, 3) := by decide +kernel
theorem dX8_step_24 : decode cX8_step 24 = .ok (.iconst 1, 1) := by decide +kernel
theorem dX8_step_25 : decode cX8_step 25 = .ok (.iadd, 1) := by decide +kernel
theorem dX8_step_26 : decode cX8_step 26 = .ok (.putfield 30, 3) := by decide +kernel
theorem dX8_step_29 : decode cX8_step 29 = .ok (.return_, 1) := by decide +kernel
theorem dX8_need_0 : decode cX8_need 0 = .ok (.aload_n 0, 1) := by decide +kernel
theorem dX8_need_1 : decode cX8_need 1 = .ok (.iload_n 1, 1) := by decide +kernel
theorem dX8_need_2 : decode cX8_need 2 = .ok (.invokevirtual 96, 3) := by decide +kernel
theorem dX8_need_5 : decode cX8_need 5 = .ok (.ifCond .eq 10, 3) := by decide +kernel
theorem dX8_need_8 : decode cX8_need 8 = .ok (.aload_n 0, 1) := by decide +kernel
theorem dX8_need_9 : decode cX8_need 9 = .ok (.invokevirtual 99, 3) := by decide +kernel
theorem dX8_need_12 : decode cX8_need 12 = .ok (.goto 8, 3) := by decide +kernel
theorem dX8_need_15 : decode cX8_need 15 = .ok (.aload_n 0, 1) := by decide +kernel
theorem dX8_need_16 : decode cX8_need 16 = .ok (.iconst 1, 1) := by decide +kernel
theorem dX8_need_17 : decode cX8_need 17 = .ok (.invokevirtual 102, 3) := by decide +kernel
theorem dX8_need_20 : decode cX8_need 20 = .ok (.return_, 1) := by decide +kernel
theorem dX8_need__0 : decode cX8_need_ 0 = .ok (.aload_n 0, 1) := by decide +kernel
theorem dX8_need__1 : decode cX8_need_ 1 = .ok (.aload_n 1, 1) := by decide +kernel
theorem dX8_need__2 : decode cX8_need_ 2 = .ok (.invokevirtual 106, 3) := by decide +kernel
theorem dX8_need__5 : decode cX8_need_ 5 = .ok (.ifCond .eq 10, 3) := by decide +kernel
theorem dX8_need__8 : decode cX8_need_ 8 = .ok (.aload_n 0, 1) := by decide +kernel
theorem dX8_need__9 : decode cX8_need_ 9 = .ok (.invokevirtual 99, 3) := by decide +kernel
theorem dX8_need__12 : decode cX8_need_ 12 = .ok (.goto 8, 3) := by decide +kernel
theorem dX8_need__15 : decode cX8_need_ 15 = .ok (.aload_n 0, 1) := by decide +kernel
theorem dX8_need__16 : decode cX8_need_ 16 = .ok (.iconst 1, 1) := by decide +kernel
theorem dX8_need__17 : decode cX8_need_ 17 = .ok (.invokevirtual 102, 3) := by decide +kernel
theorem dX8_need__20 : decode cX8_need_ 20 = .ok (.return_, 1) := by decide +kernel
theorem dX8_stepOrFail_0 : decode cX8_stepOrFail 0 = .ok (.iload_n 1, 1) := by decide +kernel
theorem dX8_stepOrFail_1 : decode cX8_stepOrFail 1 = .ok (.ifCond .eq 10, 3) := by decide +kernel
theorem dX8_stepOrFail_4 : decode cX8_stepOrFail 4 = .ok (.aload_n 0, 1) := by decide +kernel
theorem dX8_stepOrFail_5 : decode cX8_stepOrFail 5 = .ok (.invokevirtual 99, 3) := by decide +kernel
theorem dX8_stepOrFail_8 : decode cX8_stepOrFail 8 = .ok (.goto 8, 3) := by decide +kernel
theorem dX8_stepOrFail_11 : decode cX8_stepOrFail 11 = .ok (.aload_n 0, 1) := by decide +kernel
theorem dX8_stepOrFail_12 : decode cX8_stepOrFail 12 = .ok (.iload_n 2, 1) := by decide +kernel
theorem dX8_stepOrFail_13 : decode cX8_stepOrFail 13 = .ok (.invokevirtual 102, 3) := by decide +kernel
theorem dX8_stepOrFail_16 : decode cX8_stepOrFail 16 = .ok (.return_, 1) := by decide +kernel
theorem dX8_takeNumberBelow_0 : decode cX8_takeNumberBelow 0 = .ok (.aload_n 0, 1) := by decide +kernel
theorem dX8_takeNumberBelow_1 : decode cX8_takeNumberBelow 1 = .ok (.invokevirtual 109, 3) := by decide +kernel
theorem dX8_takeNumberBelow_4 : decode cX8_takeNumberBelow 4 = .ok (.istore_n 2, 1) := by decide +kernel
theorem dX8_takeNumberBelow_5 : decode cX8_takeNumberBelow 5 = .ok (.aload_n 0, 1) := by decide +kernel
theorem dX8_takeNumberBelow_6 : decode cX8_takeNumberBelow 6 = .ok (.invokevirtual 113, 3) := by decide +kernel
theorem dX8_takeNumberBelow_9 : decode cX8_takeNumberBelow 9 = .ok (.ifCond .eq 21, 3) := by decide +kernel
theorem dX8_takeNumberBelow_12 : decode cX8_takeNumberBelow 12 = .ok (.aload_n 0, 1) := by decide +kernel
theorem dX8_takeNumberBelow_13 : decode cX8_takeNumberBelow 13 = .ok (.iload_n 2, 1) := by decide +kernel
theorem dX8_takeNumberBelow_14 : decode cX8_takeNumberBelow 14 = .ok (.iload_n 1, 1) := by decide +kernel
theorem dX8_takeNumberBelow_15 : decode cX8_takeNumberBelow 15 = .ok (.if_icmp .ge 7, 3) := by decide +kernel
theorem dX8_takeNumberBelow_18 : decode cX8_takeNumberBelow 18 = .ok (.iconst 1, 1) := by decide +kernel
theorem dX8_takeNumberBelow_19 : decode cX8_takeNumberBelow 19 = .ok (.goto 4, 3) := by decide +kernel
theorem dX8_takeNumberBelow_22 : decode cX8_takeNumberBelow 22 = .ok (.iconst 0, 1) := by decide +kernel
theorem dX8_takeNumberBelow_23 : decode cX8_takeNumberBelow 23 = .ok (.iconst 4, 1) := by decide +kernel
theorem dX8_takeNumberBelow_24 : decode cX8_takeNumberBelow 24 = .ok (.invokevirtual 117, 3) := by decide +kernel
theorem dX8_takeNumberBelow_27 : decode cX8_takeNumberBelow 27 = .ok (.goto 8, 3) := by decide +kernel
theorem dX8_takeNumberBelow_30 : decode cX8_takeNumberBelow 30 = .ok (.aload_n 0, 1) := by decide +kernel
theorem dX8_takeNumberBelow_31 : decode cX8_takeNumberBelow 31 = .ok (.iconst 1, 1) := by decide +kernel
theorem dX8_takeNumberBelow_32 : decode cX8_takeNumberBelow 32 = .ok (.invokevirtual 102, 3) := by decide +kernel
theorem dX8_takeNumberBelow_35 : decode cX8_takeNumberBelow 35 = .ok (.iload_n 2, 1) := by decide +kernel
theorem dX8_takeNumberBelow_36 : decode cX8_takeNumberBelow 36 = .ok (.ireturn, 1) := by decide +kernel
theorem dX9_init_0 : decode cX9_init 0 = .ok (.aload_n 0, 1) := by decide +kernel
theorem dX9_init_1 : decode cX9_init 1 = .ok (.invokespecial 3, 3) := by decide +kernel
theorem dX9_init_4 : decode cX9_init 4 = .ok (.aload_n 0, 1) := by decide +kernel
theorem dX9_init_5 : decode cX9_init 5 = .ok (.bipush 6, 2) := by decide +kernel
theorem dX9_init_7 : decode cX9_init 7 = .ok (.newarray .int, 2) := by decide +kernel
theorem dX9_init_9 : decode cX9_init 9 = .ok (.putfield 11, 3) := by decide +kernel
theorem dX9_init_12 : decode cX9_init 12 = .ok (.aload_n 0, 1) := by decide +kernel
theorem dX9_init_13 : decode cX9_init 13 = .ok (.bipush 6, 2) := by decide +kernel
theorem dX9_init_15 : decode cX9_init 15 = .ok (.newarray .int, 2) := by decide +kernel
theorem dX9_init_17 : decode cX9_init 17 = .ok (.putfield 15, 3) := by decide +kernel
theorem dX9_init_20 : decode cX9_init 20 = .ok (.aload_n 0, 1) := by decide +kernel
theorem dX9_init_21 : decode cX9_init 21 = .ok (.bipush 6, 2) := by decide +kernel
theorem dX9_init_23 : decode cX9_init 23 = .ok (.newarray .int, 2) := by decide +kernel
theorem dX9_init_25 : decode cX9_init 25 = .ok (.putfield 18, 3) := by decide +kernel
theorem dX9_init_28 : decode cX9_init 28 = .ok (.aload_n 0, 1) := by decide +kernel
theorem dX9_init_29 : decode cX9_init 29 = .ok (.iconst 0, 1) := by decide +kernel
theorem dX9_init_30 : decode cX9_init 30 = .ok (.putfield 21, 3) := by decide +kernel
theorem dX9_init_33 : decode cX9_init 33 = .ok (.aload_n 0, 1) := by decide +kernel
theorem dX9_init_34 : decode cX9_init 34 = .ok (.iconst 0, 1) := by decide +kernel
theorem dX9_init_35 : decode cX9_init 35 = .ok (.putfield 25, 3) := by decide +kernel
theorem dX9_init_38 : decode cX9_init 38 = .ok (.aload_n 0, 1) := by decide +kernel
theorem dX9_init_39 : decode cX9_init 39 = .ok (.iconst 0, 1) := by decide +kernel
theorem dX9_init_40 : decode cX9_init 40 = .ok (.putfield 28, 3) := by decide +kernel
theorem dX9_init_43 : decode cX9_init 43 = .ok (.return_, 1) := by decide +kernel
theorem dX9_grow_0 : decode cX9_grow 0 = .ok (.aload_n 0, 1) := by decide +kernel
theorem dX9_grow_1 : decode cX9_grow 1 = .ok (.iconst 0, 1) := by decide +kernel
theorem dX9_grow_2 : decode cX9_grow 2 = .ok (.putfield 21, 3) := by decide +kernel
theorem dX9_grow_5 : decode cX9_grow 5 = .ok (.iconst 0, 1) := by decide +kernel
theorem dX9_grow_6 : decode cX9_grow 6 = .ok (.istore_n 3, 1) := by decide +kernel
theorem dX9_grow_7 : decode cX9_grow 7 = .ok (.iload_n 3, 1) := by decide +kernel
theorem dX9_grow_8 : decode cX9_grow 8 = .ok (.aload_n 1, 1) := by decide +kernel
theorem dX9_grow_9 : decode cX9_grow 9 = .ok (.getfield 31, 3) := by decide +kernel
theorem dX9_grow_12 : decode cX9_grow 12 = .ok (.if_icmp .ge 46, 3) := by decide +kernel
theorem dX9_grow_15 : decode cX9_grow 15 = .ok (.iload_n 2, 1) := by decide +kernel
theorem dX9_grow_16 : decode cX9_grow 16 = .ok (.iload_n 3, 1) := by decide +kernel
theorem dX9_grow_17 : decode cX9_grow 17 = .ok (.ishr, 1) := by decide +kernel
theorem dX9_grow_18 : decode cX9_grow 18 = .ok (.iconst 1, 1) := by decide +kernel
theorem dX9_grow_19 : decode cX9_grow 19 = .ok (.iand, 1) := by decide +kernel
theorem dX9_grow_20 : decode cX9_grow 20 = .ok (.ifCond .eq 32, 3) := by decide +kernel
theorem dX9_grow_23 : decode cX9_grow 23 = .ok (.aload_n 0, 1) := by decide +kernel
theorem dX9_grow_24 : decode cX9_grow 24 = .ok (.getfield 21, 3) := by decide +kernel
theorem dX9_grow_27 : decode cX9_grow 27 = .ok (.bipush 6, 2) := by decide +kernel
theorem dX9_grow_29 : decode cX9_grow 29 = .ok (.if_icmp .ge 23, 3) := by decide +kernel
theorem dX9_grow_32 : decode cX9_grow 32 = .ok (.aload_n 0, 1) := by decide +kernel
theorem dX9_grow_33 : decode cX9_grow 33 = .ok (.getfield 11, 3) := by decide +kernel
theorem dX9_grow_36 : decode cX9_grow 36 = .ok (.aload_n 0, 1) := by decide +kernel
theorem dX9_grow_37 : decode cX9_grow 37 = .ok (.getfield 21, 3) := by decide +kernel
theorem dX9_grow_40 : decode cX9_grow 40 = .ok (.iload_n 3, 1) := by decide +kernel
theorem dX9_grow_41 : decode cX9_grow 41 = .ok (.iastore, 1) := by decide +kernel
theorem dX9_grow_42 : decode cX9_grow 42 = .ok (.aload_n 0, 1) := by decide +kernel
theorem dX9_grow_43 : decode cX9_grow 43 = .ok (.dup, 1) := by decide +kernel
theorem dX9_grow_44 : decode cX9_grow 44 = .ok (.getfield 21, 3) := by decide +kernel
theorem dX9_grow_47 : decode cX9_grow 47 = .ok (.iconst 1, 1) := by decide +kernel
theorem dX9_grow_48 : decode cX9_grow 48 = .ok (.iadd, 1) := by decide +kernel
theorem dX9_grow_49 : decode cX9_grow 49 = .ok (.putfield 21, 3) := by decide +kernel
theorem dX9_grow_52 : decode cX9_grow 52 = .ok (.iinc 3 1, 3) := by decide +kernel
theorem dX9_grow_55 : decode cX9_grow 55 = .ok (.goto (-48), 3) := by decide +kernel
theorem dX9_grow_58 : decode cX9_grow 58 = .ok (.aload_n 0, 1) := by decide +kernel
theorem dX9_grow_59 : decode cX9_grow 59 = .ok (.sipush 1000, 3) := by decide +kernel
theorem dX9_grow_62 : decode cX9_grow 62 = .ok (.putfield 25, 3) := by decide +kernel
theorem dX9_grow_65 : decode cX9_grow 65 = .ok (.aload_n 0, 1) := by decide +kernel
theorem dX9_grow_66 : decode cX9_grow 66 = .ok (.iconst 0, 1) := by decide +kernel
theorem dX9_grow_67 : decode cX9_grow 67 = .ok (.putfield 28, 3) := by decide +kernel
theorem dX9_grow_70 : decode cX9_grow 70 = .ok (.aload_n 0, 1) := by decide +kernel
theorem dX9_grow_71 : decode cX9_grow 71 = .ok (.aload_n 1, 1) := by decide +kernel
theorem dX9_grow_72 : decode cX9_grow 72 = .ok (.iconst 1, 1) := by decide +kernel
theorem dX9_grow_73 : decode cX9_grow 73 = .ok (.iconst 0, 1) := by decide +kernel
theorem dX9_grow_74 : decode cX9_grow 74 = .ok (.invokevirtual 36, 3) := by decide +kernel
theorem dX9_grow_77 : decode cX9_grow 77 = .ok (.return_, 1) := by decide +kernel
theorem dX9_join_0 : decode cX9_join 0 = .ok (.iload_n 3, 1) := by decide +kernel
theorem dX9_join_1 : decode cX9_join 1 = .ok (.aload_n 0, 1) := by decide +kernel
theorem dX9_join_2 : decode cX9_join 2 = .ok (.getfield 25, 3) := by decide +kernel
theorem dX9_join_5 : decode cX9_join 5 = .ok (.if_icmp .le 4, 3) := by decide +kernel
theorem dX9_join_8 : decode cX9_join 8 = .ok (.return_, 1) := by decide +kernel
theorem dX9_join_9 : decode cX9_join 9 = .ok (.iload_n 2, 1) := by decide +kernel
theorem dX9_join_10 : decode cX9_join 10 = .ok (.aload_n 0, 1) := by decide +kernel
theorem dX9_join_11 : decode cX9_join 11 = .ok (.getfield 21, 3) := by decide +kernel
theorem dX9_join_14 : decode cX9_join 14 = .ok (.if_icmp .ge 9, 3) := by decide +kernel
theorem dX9_join_17 : decode cX9_join 17 = .ok (.iload_n 2, 1) := by decide +kernel
theorem dX9_join_18 : decode cX9_join 18 = .ok (.bipush 6, 2) := by decide +kernel
theorem dX9_join_20 : decode cX9_join 20 = .ok (.if_icmp .lt 9, 3) := by decide +kernel
theorem dX9_join_23 : decode cX9_join 23 = .ok (.aload_n 0, 1) := by decide +kernel
theorem dX9_join_24 : decode cX9_join 24 = .ok (.iload_n 3, 1) := by decide +kernel
