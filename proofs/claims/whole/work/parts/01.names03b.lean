theorem dX3_copyOf_0 : decode cX3_copyOf 0 = .ok (.aload_n 1, 1) := by decide +kernel
theorem dX3_copyOf_1 : decode cX3_copyOf 1 = .ok (.iload_n 2, 1) := by decide +kernel
theorem dX3_copyOf_2 : decode cX3_copyOf 2 = .ok (.invokevirtual 75, 3) := by decide +kernel
theorem dX3_copyOf_5 : decode cX3_copyOf 5 = .ok (.ifCond .eq 29, 3) := by decide +kernel
theorem dX3_copyOf_8 : decode cX3_copyOf 8 = .ok (.aload_n 0, 1) := by decide +kernel
theorem dX3_copyOf_9 : decode cX3_copyOf 9 = .ok (.iload_n 3, 1) := by decide +kernel
theorem dX3_copyOf_10 : decode cX3_copyOf 10 = .ok (.invokevirtual 71, 3) := by decide +kernel
theorem dX3_copyOf_13 : decode cX3_copyOf 13 = .ok (.ifCond .eq 21, 3) := by decide +kernel
theorem dX3_copyOf_16 : decode cX3_copyOf 16 = .ok (.aload_n 1, 1) := by decide +kernel
theorem dX3_copyOf_17 : decode cX3_copyOf 17 = .ok (.iload 4, 2) := by decide +kernel
theorem dX3_copyOf_19 : decode cX3_copyOf 19 = .ok (.invokevirtual 125, 3) := by decide +kernel
theorem dX3_copyOf_22 : decode cX3_copyOf 22 = .ok (.ifCond .eq 12, 3) := by decide +kernel
theorem dX3_copyOf_25 : decode cX3_copyOf 25 = .ok (.aload_n 0, 1) := by decide +kernel
theorem dX3_copyOf_26 : decode cX3_copyOf 26 = .ok (.getfield 34, 3) := by decide +kernel
theorem dX3_copyOf_29 : decode cX3_copyOf 29 = .ok (.bipush 8, 2) := by decide +kernel
theorem dX3_copyOf_31 : decode cX3_copyOf 31 = .ok (.if_icmp .lt 5, 3) := by decide +kernel
theorem dX3_copyOf_34 : decode cX3_copyOf 34 = .ok (.iconst (-1), 1) := by decide +kernel
theorem dX3_copyOf_35 : decode cX3_copyOf 35 = .ok (.ireturn, 1) := by decide +kernel
theorem dX3_copyOf_36 : decode cX3_copyOf 36 = .ok (.aload_n 1, 1) := by decide +kernel
theorem dX3_copyOf_37 : decode cX3_copyOf 37 = .ok (.getfield 111, 3) := by decide +kernel
theorem dX3_copyOf_40 : decode cX3_copyOf 40 = .ok (.iload_n 2, 1) := by decide +kernel
theorem dX3_copyOf_41 : decode cX3_copyOf 41 = .ok (.iaload, 1) := by decide +kernel
theorem dX3_copyOf_42 : decode cX3_copyOf 42 = .ok (.iconst 3, 1) := by decide +kernel
theorem dX3_copyOf_43 : decode cX3_copyOf 43 = .ok (.if_icmp .ne 7, 3) := by decide +kernel
theorem dX3_copyOf_46 : decode cX3_copyOf 46 = .ok (.iconst 5, 1) := by decide +kernel
theorem dX3_copyOf_47 : decode cX3_copyOf 47 = .ok (.goto 4, 3) := by decide +kernel
theorem dX3_copyOf_50 : decode cX3_copyOf 50 = .ok (.iload_n 2, 1) := by decide +kernel
theorem dX3_copyOf_51 : decode cX3_copyOf 51 = .ok (.istore 5, 2) := by decide +kernel
theorem dX3_copyOf_53 : decode cX3_copyOf 53 = .ok (.aload_n 0, 1) := by decide +kernel
theorem dX3_copyOf_54 : decode cX3_copyOf 54 = .ok (.getfield 24, 3) := by decide +kernel
theorem dX3_copyOf_57 : decode cX3_copyOf 57 = .ok (.iload_n 3, 1) := by decide +kernel
theorem dX3_copyOf_58 : decode cX3_copyOf 58 = .ok (.iaload, 1) := by decide +kernel
theorem dX3_copyOf_59 : decode cX3_copyOf 59 = .ok (.iload 5, 2) := by decide +kernel
theorem dX3_copyOf_61 : decode cX3_copyOf 61 = .ok (.if_icmp .ne 20, 3) := by decide +kernel
theorem dX3_copyOf_64 : decode cX3_copyOf 64 = .ok (.aload_n 1, 1) := by decide +kernel
theorem dX3_copyOf_65 : decode cX3_copyOf 65 = .ok (.getfield 128, 3) := by decide +kernel
theorem dX3_copyOf_68 : decode cX3_copyOf 68 = .ok (.iload_n 2, 1) := by decide +kernel
theorem dX3_copyOf_69 : decode cX3_copyOf 69 = .ok (.iaload, 1) := by decide +kernel
theorem dX3_copyOf_70 : decode cX3_copyOf 70 = .ok (.aload_n 0, 1) := by decide +kernel
theorem dX3_copyOf_71 : decode cX3_copyOf 71 = .ok (.aload_n 1, 1) := by decide +kernel
theorem dX3_copyOf_72 : decode cX3_copyOf 72 = .ok (.iload_n 3, 1) := by decide +kernel
theorem dX3_copyOf_73 : decode cX3_copyOf 73 = .ok (.iload 4, 2) := by decide +kernel
theorem dX3_copyOf_75 : decode cX3_copyOf 75 = .ok (.invokevirtual 131, 3) := by decide +kernel
theorem dX3_copyOf_78 : decode cX3_copyOf 78 = .ok (.if_icmp .ge 5, 3) := by decide +kernel
theorem dX3_copyOf_81 : decode cX3_copyOf 81 = .ok (.iconst (-1), 1) := by decide +kernel
theorem dX3_copyOf_82 : decode cX3_copyOf 82 = .ok (.ireturn, 1) := by decide +kernel
theorem dX3_copyOf_83 : decode cX3_copyOf 83 = .ok (.aload_n 0, 1) := by decide +kernel
theorem dX3_copyOf_84 : decode cX3_copyOf 84 = .ok (.iload_n 3, 1) := by decide +kernel
theorem dX3_copyOf_85 : decode cX3_copyOf 85 = .ok (.iconst 1, 1) := by decide +kernel
theorem dX3_copyOf_86 : decode cX3_copyOf 86 = .ok (.iload 4, 2) := by decide +kernel
theorem dX3_copyOf_88 : decode cX3_copyOf 88 = .ok (.ishl, 1) := by decide +kernel
theorem dX3_copyOf_89 : decode cX3_copyOf 89 = .ok (.iload_n 2, 1) := by decide +kernel
theorem dX3_copyOf_90 : decode cX3_copyOf 90 = .ok (.invokevirtual 135, 3) := by decide +kernel
theorem dX3_copyOf_93 : decode cX3_copyOf 93 = .ok (.aload_n 0, 1) := by decide +kernel
theorem dX3_copyOf_94 : decode cX3_copyOf 94 = .ok (.getfield 34, 3) := by decide +kernel
theorem dX3_copyOf_97 : decode cX3_copyOf 97 = .ok (.iconst 1, 1) := by decide +kernel
theorem dX3_copyOf_98 : decode cX3_copyOf 98 = .ok (.isub, 1) := by decide +kernel
theorem dX3_copyOf_99 : decode cX3_copyOf 99 = .ok (.ireturn, 1) := by decide +kernel
set_option maxRecDepth 20000 in
theorem ggX3_sale_X3_isHeld : GoodIn wsX3_sale wsX3_isHeld := goodIn_r _ [7, 2, 8, 9, 10, 11, 12, 13, 14, 15, 16, 6, 17, 18, 57, 58, 59, 60, 61, 62, 63, 64, 65, 66, 67, 68, 69, 70, 71, 72, 73, 74, 75, 76, 77, 78, 79, 80, 81, 82] (by decide +kernel) (by decide +kernel)
set_option maxRecDepth 20000 in
theorem gX3_sale_X3_isHeld : GoodIn wsX3_sale (wsV RX3 117 RX3 yX3_isHeld wsX3_isHeld) := goodIn_app (goodIn_of _ (by decide +kernel)) ggX3_sale_X3_isHeld
set_option maxRecDepth 20000 in
theorem ggX3_sale_X3_worthOf : GoodIn wsX3_sale wsX3_worthOf := goodIn_r _ [22, 23, 24, 25, 26, 27, 28, 29, 30, 31, 32, 33, 34, 6, 35, 36, 37, 38, 39, 40, 41, 42, 43, 44, 45, 46, 47, 48, 49, 50, 51, 52, 53, 54, 55, 56, 70, 71, 72, 73, 74, 75, 76, 77, 78, 79, 80, 81, 82, 57, 58, 59, 60, 61, 62, 63, 64, 65, 66, 67, 68, 69, 83, 84] (by decide +kernel) (by decide +kernel)
set_option maxRecDepth 20000 in
theorem gX3_sale_X3_worthOf : GoodIn wsX3_sale (wsV RX3 139 RX3 yX3_worthOf wsX3_worthOf) := goodIn_app (goodIn_of _ (by decide +kernel)) ggX3_sale_X3_worthOf
theorem dX3_sale_0 : decode cX3_sale 0 = .ok (.aload_n 0, 1) := by decide +kernel
theorem dX3_sale_1 : decode cX3_sale 1 = .ok (.aload_n 1, 1) := by decide +kernel
theorem dX3_sale_2 : decode cX3_sale 2 = .ok (.iload_n 2, 1) := by decide +kernel
theorem dX3_sale_3 : decode cX3_sale 3 = .ok (.iload_n 3, 1) := by decide +kernel
theorem dX3_sale_4 : decode cX3_sale 4 = .ok (.invokevirtual 117, 3) := by decide +kernel
theorem dX3_sale_7 : decode cX3_sale 7 = .ok (.ifCond .ne 5, 3) := by decide +kernel
theorem dX3_sale_10 : decode cX3_sale 10 = .ok (.iconst (-1), 1) := by decide +kernel
theorem dX3_sale_11 : decode cX3_sale 11 = .ok (.ireturn, 1) := by decide +kernel
theorem dX3_sale_12 : decode cX3_sale 12 = .ok (.aload_n 0, 1) := by decide +kernel
theorem dX3_sale_13 : decode cX3_sale 13 = .ok (.aload_n 1, 1) := by decide +kernel
theorem dX3_sale_14 : decode cX3_sale 14 = .ok (.iload_n 3, 1) := by decide +kernel
theorem dX3_sale_15 : decode cX3_sale 15 = .ok (.invokevirtual 139, 3) := by decide +kernel
theorem dX3_sale_18 : decode cX3_sale 18 = .ok (.istore 4, 2) := by decide +kernel
theorem dX3_sale_20 : decode cX3_sale 20 = .ok (.aload_n 0, 1) := by decide +kernel
theorem dX3_sale_21 : decode cX3_sale 21 = .ok (.getfield 27, 3) := by decide +kernel
theorem dX3_sale_24 : decode cX3_sale 24 = .ok (.iload_n 2, 1) := by decide +kernel
theorem dX3_sale_25 : decode cX3_sale 25 = .ok (.dup2, 1) := by decide +kernel
theorem dX3_sale_26 : decode cX3_sale 26 = .ok (.iaload, 1) := by decide +kernel
theorem dX3_sale_27 : decode cX3_sale 27 = .ok (.iload 4, 2) := by decide +kernel
theorem dX3_sale_29 : decode cX3_sale 29 = .ok (.iadd, 1) := by decide +kernel
theorem dX3_sale_30 : decode cX3_sale 30 = .ok (.iastore, 1) := by decide +kernel
theorem dX3_sale_31 : decode cX3_sale 31 = .ok (.aload_n 0, 1) := by decide +kernel
theorem dX3_sale_32 : decode cX3_sale 32 = .ok (.getfield 24, 3) := by decide +kernel
theorem dX3_sale_35 : decode cX3_sale 35 = .ok (.iload_n 3, 1) := by decide +kernel
theorem dX3_sale_36 : decode cX3_sale 36 = .ok (.bipush 6, 2) := by decide +kernel
theorem dX3_sale_38 : decode cX3_sale 38 = .ok (.iastore, 1) := by decide +kernel
theorem dX3_sale_39 : decode cX3_sale 39 = .ok (.iload 4, 2) := by decide +kernel
theorem dX3_sale_41 : decode cX3_sale 41 = .ok (.ireturn, 1) := by decide +kernel
theorem dX3_setGuard_0 : decode cX3_setGuard 0 = .ok (.iload_n 1, 1) := by decide +kernel
theorem dX3_setGuard_1 : decode cX3_setGuard 1 = .ok (.ifCond .lt 20, 3) := by decide +kernel
theorem dX3_setGuard_4 : decode cX3_setGuard 4 = .ok (.iload_n 1, 1) := by decide +kernel
theorem dX3_setGuard_5 : decode cX3_setGuard 5 = .ok (.bipush 24, 2) := by decide +kernel
theorem dX3_setGuard_7 : decode cX3_setGuard 7 = .ok (.if_icmp .ge 14, 3) := by decide +kernel
theorem dX3_setGuard_10 : decode cX3_setGuard 10 = .ok (.aload_n 0, 1) := by decide +kernel
theorem dX3_setGuard_11 : decode cX3_setGuard 11 = .ok (.getfield 40, 3) := by decide +kernel
theorem dX3_setGuard_14 : decode cX3_setGuard 14 = .ok (.iload_n 1, 1) := by decide +kernel
theorem dX3_setGuard_15 : decode cX3_setGuard 15 = .ok (.ishr, 1) := by decide +kernel
theorem dX3_setGuard_16 : decode cX3_setGuard 16 = .ok (.iconst 1, 1) := by decide +kernel
theorem dX3_setGuard_17 : decode cX3_setGuard 17 = .ok (.iand, 1) := by decide +kernel
theorem dX3_setGuard_18 : decode cX3_setGuard 18 = .ok (.ifCond .eq 5, 3) := by decide +kernel
theorem dX3_setGuard_21 : decode cX3_setGuard 21 = .ok (.iconst 0, 1) := by decide +kernel
theorem dX3_setGuard_22 : decode cX3_setGuard 22 = .ok (.ireturn, 1) := by decide +kernel
theorem dX3_setGuard_23 : decode cX3_setGuard 23 = .ok (.aload_n 0, 1) := by decide +kernel
theorem dX3_setGuard_24 : decode cX3_setGuard 24 = .ok (.dup, 1) := by decide +kernel
theorem dX3_setGuard_25 : decode cX3_setGuard 25 = .ok (.getfield 40, 3) := by decide +kernel
theorem dX3_setGuard_28 : decode cX3_setGuard 28 = .ok (.iconst 1, 1) := by decide +kernel
theorem dX3_setGuard_29 : decode cX3_setGuard 29 = .ok (.iload_n 1, 1) := by decide +kernel
theorem dX3_setGuard_30 : decode cX3_setGuard 30 = .ok (.ishl, 1) := by decide +kernel
theorem dX3_setGuard_31 : decode cX3_setGuard 31 = .ok (.ior, 1) := by decide +kernel
theorem dX3_setGuard_32 : decode cX3_setGuard 32 = .ok (.putfield 40, 3) := by decide +kernel
theorem dX3_setGuard_35 : decode cX3_setGuard 35 = .ok (.iconst 1, 1) := by decide +kernel
theorem dX3_setGuard_36 : decode cX3_setGuard 36 = .ok (.ireturn, 1) := by decide +kernel
theorem dX3_passNight_0 : decode cX3_passNight 0 = .ok (.aload_n 0, 1) := by decide +kernel
theorem dX3_passNight_1 : decode cX3_passNight 1 = .ok (.getfield 21, 3) := by decide +kernel
theorem dX3_passNight_4 : decode cX3_passNight 4 = .ok (.aload_n 0, 1) := by decide +kernel
theorem dX3_passNight_5 : decode cX3_passNight 5 = .ok (.getfield 37, 3) := by decide +kernel
theorem dX3_passNight_8 : decode cX3_passNight 8 = .ok (.dup2, 1) := by decide +kernel
theorem dX3_passNight_9 : decode cX3_passNight 9 = .ok (.iaload, 1) := by decide +kernel
theorem dX3_passNight_10 : decode cX3_passNight 10 = .ok (.iconst 1, 1) := by decide +kernel
theorem dX3_passNight_11 : decode cX3_passNight 11 = .ok (.iadd, 1) := by decide +kernel
theorem dX3_passNight_12 : decode cX3_passNight 12 = .ok (.iastore, 1) := by decide +kernel
theorem dX3_passNight_13 : decode cX3_passNight 13 = .ok (.aload_n 0, 1) := by decide +kernel
theorem dX3_passNight_14 : decode cX3_passNight 14 = .ok (.iconst 0, 1) := by decide +kernel
theorem dX3_passNight_15 : decode cX3_passNight 15 = .ok (.putfield 40, 3) := by decide +kernel
theorem dX3_passNight_18 : decode cX3_passNight 18 = .ok (.aload_n 0, 1) := by decide +kernel
theorem dX3_passNight_19 : decode cX3_passNight 19 = .ok (.dup, 1) := by decide +kernel
theorem dX3_passNight_20 : decode cX3_passNight 20 = .ok (.getfield 30, 3) := by decide +kernel
theorem dX3_passNight_23 : decode cX3_passNight 23 = .ok (.iconst 1, 1) := by decide +kernel
theorem dX3_passNight_24 : decode cX3_passNight 24 = .ok (.iadd, 1) := by decide +kernel
theorem dX3_passNight_25 : decode cX3_passNight 25 = .ok (.putfield 30, 3) := by decide +kernel
theorem dX3_passNight_28 : decode cX3_passNight 28 = .ok (.return_, 1) := by decide +kernel
theorem dX4_init_0 : decode cX4_init 0 = .ok (.aload_n 0, 1) := by decide +kernel
theorem dX4_init_1 : decode cX4_init 1 = .ok (.invokespecial 1, 3) := by decide +kernel
theorem dX4_init_4 : decode cX4_init 4 = .ok (.aload_n 0, 1) := by decide +kernel
theorem dX4_init_5 : decode cX4_init 5 = .ok (.bipush 32, 2) := by decide +kernel
theorem dX4_init_7 : decode cX4_init 7 = .ok (.newarray .int, 2) := by decide +kernel
theorem dX4_init_9 : decode cX4_init 9 = .ok (.putfield 9, 3) := by decide +kernel
theorem dX4_init_12 : decode cX4_init 12 = .ok (.aload_n 0, 1) := by decide +kernel
theorem dX4_init_13 : decode cX4_init 13 = .ok (.aload_n 1, 1) := by decide +kernel
theorem dX4_init_14 : decode cX4_init 14 = .ok (.putfield 13, 3) := by decide +kernel
theorem dX4_init_17 : decode cX4_init 17 = .ok (.return_, 1) := by decide +kernel
set_option maxRecDepth 20000 in
theorem ggX4_value_X4_operand : GoodIn wsX4_value wsX4_operand := goodIn_r _ [6] (by decide +kernel) (by decide +kernel)
set_option maxRecDepth 20000 in
theorem gX4_value_X4_operand : GoodIn wsX4_value (va_wsS RX4 16 yX4_operand wsX4_operand) := goodIn_app (goodIn_of _ (by decide +kernel)) ggX4_value_X4_operand
set_option maxRecDepth 20000 in
theorem ggX4_value_X4_joinedBy : GoodIn wsX4_value wsX4_joinedBy := goodIn_r _ [9] (by decide +kernel) (by decide +kernel)
set_option maxRecDepth 20000 in
theorem gX4_value_X4_joinedBy : GoodIn wsX4_value (va_wsS RX4 20 yX4_joinedBy wsX4_joinedBy) := goodIn_app (goodIn_of _ (by decide +kernel)) ggX4_value_X4_joinedBy
theorem dX4_value_0 : decode cX4_value 0 = .ok (.iconst 0, 1) := by decide +kernel
theorem dX4_value_1 : decode cX4_value 1 = .ok (.istore 4, 2) := by decide +kernel
theorem dX4_value_3 : decode cX4_value 3 = .ok (.iconst 0, 1) := by decide +kernel
theorem dX4_value_4 : decode cX4_value 4 = .ok (.istore 5, 2) := by decide +kernel
theorem dX4_value_6 : decode cX4_value 6 = .ok (.iload 5, 2) := by decide +kernel
theorem dX4_value_8 : decode cX4_value 8 = .ok (.aload_n 0, 1) := by decide +kernel
theorem dX4_value_9 : decode cX4_value 9 = .ok (.getfield 13, 3) := by decide +kernel
theorem dX4_value_12 : decode cX4_value 12 = .ok (.arraylength, 1) := by decide +kernel
theorem dX4_value_13 : decode cX4_value 13 = .ok (.if_icmp .ge 141, 3) := by decide +kernel
theorem dX4_value_16 : decode cX4_value 16 = .ok (.aload_n 0, 1) := by decide +kernel
theorem dX4_value_17 : decode cX4_value 17 = .ok (.getfield 13, 3) := by decide +kernel
theorem dX4_value_20 : decode cX4_value 20 = .ok (.iload 5, 2) := by decide +kernel
theorem dX4_value_22 : decode cX4_value 22 = .ok (.iaload, 1) := by decide +kernel
theorem dX4_value_23 : decode cX4_value 23 = .ok (.istore 6, 2) := by decide +kernel
theorem dX4_value_25 : decode cX4_value 25 = .ok (.iload 6, 2) := by decide +kernel
theorem dX4_value_27 : decode cX4_value 27 = .ok (.bipush (-4), 2) := by decide +kernel
theorem dX4_value_29 : decode cX4_value 29 = .ok (.if_icmp .le 31, 3) := by decide +kernel
theorem dX4_value_32 : decode cX4_value 32 = .ok (.iload 4, 2) := by decide +kernel
theorem dX4_value_34 : decode cX4_value 34 = .ok (.bipush 32, 2) := by decide +kernel
theorem dX4_value_36 : decode cX4_value 36 = .ok (.if_icmp .ge 24, 3) := by decide +kernel
theorem dX4_value_39 : decode cX4_value 39 = .ok (.aload_n 0, 1) := by decide +kernel
theorem dX4_value_40 : decode cX4_value 40 = .ok (.getfield 9, 3) := by decide +kernel
theorem dX4_value_43 : decode cX4_value 43 = .ok (.iload 4, 2) := by decide +kernel
theorem dX4_value_45 : decode cX4_value 45 = .ok (.iload 6, 2) := by decide +kernel
theorem dX4_value_47 : decode cX4_value 47 = .ok (.iload_n 1, 1) := by decide +kernel
theorem dX4_value_48 : decode cX4_value 48 = .ok (.iload_n 2, 1) := by decide +kernel
theorem dX4_value_49 : decode cX4_value 49 = .ok (.iload_n 3, 1) := by decide +kernel
theorem dX4_value_50 : decode cX4_value 50 = .ok (.invokestatic 16, 3) := by decide +kernel
theorem dX4_value_53 : decode cX4_value 53 = .ok (.iastore, 1) := by decide +kernel
theorem dX4_value_54 : decode cX4_value 54 = .ok (.iinc 4 1, 3) := by decide +kernel
theorem dX4_value_57 : decode cX4_value 57 = .ok (.goto 91, 3) := by decide +kernel
theorem dX4_value_60 : decode cX4_value 60 = .ok (.iload 6, 2) := by decide +kernel
theorem dX4_value_62 : decode cX4_value 62 = .ok (.bipush (-4), 2) := by decide +kernel
theorem dX4_value_64 : decode cX4_value 64 = .ok (.if_icmp .ne 38, 3) := by decide +kernel
theorem dX4_value_67 : decode cX4_value 67 = .ok (.iload 4, 2) := by decide +kernel
theorem dX4_value_69 : decode cX4_value 69 = .ok (.iconst 1, 1) := by decide +kernel
theorem dX4_value_70 : decode cX4_value 70 = .ok (.if_icmp .lt 32, 3) := by decide +kernel
theorem dX4_value_73 : decode cX4_value 73 = .ok (.aload_n 0, 1) := by decide +kernel
theorem dX4_value_74 : decode cX4_value 74 = .ok (.getfield 9, 3) := by decide +kernel
theorem dX4_value_77 : decode cX4_value 77 = .ok (.iload 4, 2) := by decide +kernel
theorem dX4_value_79 : decode cX4_value 79 = .ok (.iconst 1, 1) := by decide +kernel
theorem dX4_value_80 : decode cX4_value 80 = .ok (.isub, 1) := by decide +kernel
theorem dX4_value_81 : decode cX4_value 81 = .ok (.aload_n 0, 1) := by decide +kernel
theorem dX4_value_82 : decode cX4_value 82 = .ok (.getfield 9, 3) := by decide +kernel
theorem dX4_value_85 : decode cX4_value 85 = .ok (.iload 4, 2) := by decide +kernel
theorem dX4_value_87 : decode cX4_value 87 = .ok (.iconst 1, 1) := by decide +kernel
theorem dX4_value_88 : decode cX4_value 88 = .ok (.isub, 1) := by decide +kernel
theorem dX4_value_89 : decode cX4_value 89 = .ok (.iaload, 1) := by decide +kernel
theorem dX4_value_90 : decode cX4_value 90 = .ok (.ifCond .ne 7, 3) := by decide +kernel
theorem dX4_value_93 : decode cX4_value 93 = .ok (.iconst 1, 1) := by decide +kernel
theorem dX4_value_94 : decode cX4_value 94 = .ok (.goto 4, 3) := by decide +kernel
theorem dX4_value_97 : decode cX4_value 97 = .ok (.iconst 0, 1) := by decide +kernel
theorem dX4_value_98 : decode cX4_value 98 = .ok (.iastore, 1) := by decide +kernel
theorem dX4_value_99 : decode cX4_value 99 = .ok (.goto 49, 3) := by decide +kernel
theorem dX4_value_102 : decode cX4_value 102 = .ok (.iload 6, 2) := by decide +kernel
theorem dX4_value_104 : decode cX4_value 104 = .ok (.bipush (-4), 2) := by decide +kernel
theorem dX4_value_106 : decode cX4_value 106 = .ok (.if_icmp .ge 42, 3) := by decide +kernel
theorem dX4_value_109 : decode cX4_value 109 = .ok (.iload 4, 2) := by decide +kernel
theorem dX4_value_111 : decode cX4_value 111 = .ok (.iconst 2, 1) := by decide +kernel
theorem dX4_value_112 : decode cX4_value 112 = .ok (.if_icmp .lt 36, 3) := by decide +kernel
theorem dX4_value_115 : decode cX4_value 115 = .ok (.iinc 4 (-1), 3) := by decide +kernel
theorem dX4_value_118 : decode cX4_value 118 = .ok (.aload_n 0, 1) := by decide +kernel
theorem dX4_value_119 : decode cX4_value 119 = .ok (.getfield 9, 3) := by decide +kernel
theorem dX4_value_122 : decode cX4_value 122 = .ok (.iload 4, 2) := by decide +kernel
theorem dX4_value_124 : decode cX4_value 124 = .ok (.iconst 1, 1) := by decide +kernel
theorem dX4_value_125 : decode cX4_value 125 = .ok (.isub, 1) := by decide +kernel
theorem dX4_value_126 : decode cX4_value 126 = .ok (.iload 6, 2) := by decide +kernel
theorem dX4_value_128 : decode cX4_value 128 = .ok (.aload_n 0, 1) := by decide +kernel
theorem dX4_value_129 : decode cX4_value 129 = .ok (.getfield 9, 3) := by decide +kernel
theorem dX4_value_132 : decode cX4_value 132 = .ok (.iload 4, 2) := by decide +kernel
theorem dX4_value_134 : decode cX4_value 134 = .ok (.iconst 1, 1) := by decide +kernel
theorem dX4_value_135 : decode cX4_value 135 = .ok (.isub, 1) := by decide +kernel
theorem dX4_value_136 : decode cX4_value 136 = .ok (.iaload, 1) := by decide +kernel
theorem dX4_value_137 : decode cX4_value 137 = .ok (.aload_n 0, 1) := by decide +kernel
theorem dX4_value_138 : decode cX4_value 138 = .ok (.getfield 9, 3) := by decide +kernel
theorem dX4_value_141 : decode cX4_value 141 = .ok (.iload 4, 2) := by decide +kernel
theorem dX4_value_143 : decode cX4_value 143 = .ok (.iaload, 1) := by decide +kernel
theorem dX4_value_144 : decode cX4_value 144 = .ok (.invokestatic 20, 3) := by decide +kernel
theorem dX4_value_147 : decode cX4_value 147 = .ok (.iastore, 1) := by decide +kernel
theorem dX4_value_148 : decode cX4_value 148 = .ok (.iinc 5 1, 3) := by decide +kernel
theorem dX4_value_151 : decode cX4_value 151 = .ok (.goto (-145), 3) := by decide +kernel
theorem dX4_value_154 : decode cX4_value 154 = .ok (.aload_n 0, 1) := by decide +kernel
theorem dX4_value_155 : decode cX4_value 155 = .ok (.getfield 9, 3) := by decide +kernel
theorem dX4_value_158 : decode cX4_value 158 = .ok (.iconst 0, 1) := by decide +kernel
theorem dX4_value_159 : decode cX4_value 159 = .ok (.iaload, 1) := by decide +kernel
theorem dX4_value_160 : decode cX4_value 160 = .ok (.ireturn, 1) := by decide +kernel
theorem dX4_operand_0 : decode cX4_operand 0 = .ok (.iload_n 0, 1) := by decide +kernel
theorem dX4_operand_1 : decode cX4_operand 1 = .ok (.tableswitch 33 (-3) (-1) #[31, 29, 27], 27) := by decide +kernel
theorem dX4_operand_28 : decode cX4_operand 28 = .ok (.iload_n 1, 1) := by decide +kernel
theorem dX4_operand_29 : decode cX4_operand 29 = .ok (.ireturn, 1) := by decide +kernel
theorem dX4_operand_30 : decode cX4_operand 30 = .ok (.iload_n 2, 1) := by decide +kernel
theorem dX4_operand_31 : decode cX4_operand 31 = .ok (.ireturn, 1) := by decide +kernel
theorem dX4_operand_32 : decode cX4_operand 32 = .ok (.iload_n 3, 1) := by decide +kernel
theorem dX4_operand_33 : decode cX4_operand 33 = .ok (.ireturn, 1) := by decide +kernel
theorem dX4_operand_34 : decode cX4_operand 34 = .ok (.iload_n 0, 1) := by decide +kernel
theorem dX4_operand_35 : decode cX4_operand 35 = .ok (.ireturn, 1) := by decide +kernel
theorem dX4_joinedBy_0 : decode cX4_joinedBy 0 = .ok (.iload_n 0, 1) := by decide +kernel
theorem dX4_joinedBy_1 : decode cX4_joinedBy 1 = .ok (.tableswitch 97 (-10) (-5) #[93, 89, 78, 67, 53, 39], 39) := by decide +kernel
theorem dX4_joinedBy_40 : decode cX4_joinedBy 40 = .ok (.iload_n 1, 1) := by decide +kernel
theorem dX4_joinedBy_41 : decode cX4_joinedBy 41 = .ok (.ifCond .eq 11, 3) := by decide +kernel
theorem dX4_joinedBy_44 : decode cX4_joinedBy 44 = .ok (.iload_n 2, 1) := by decide +kernel
theorem dX4_joinedBy_45 : decode cX4_joinedBy 45 = .ok (.ifCond .eq 7, 3) := by decide +kernel
theorem dX4_joinedBy_48 : decode cX4_joinedBy 48 = .ok (.iconst 1, 1) := by decide +kernel
theorem dX4_joinedBy_49 : decode cX4_joinedBy 49 = .ok (.goto 4, 3) := by decide +kernel
theorem dX4_joinedBy_52 : decode cX4_joinedBy 52 = .ok (.iconst 0, 1) := by decide +kernel
theorem dX4_joinedBy_53 : decode cX4_joinedBy 53 = .ok (.ireturn, 1) := by decide +kernel
theorem dX4_joinedBy_54 : decode cX4_joinedBy 54 = .ok (.iload_n 1, 1) := by decide +kernel
theorem dX4_joinedBy_55 : decode cX4_joinedBy 55 = .ok (.ifCond .ne 7, 3) := by decide +kernel
theorem dX4_joinedBy_58 : decode cX4_joinedBy 58 = .ok (.iload_n 2, 1) := by decide +kernel
theorem dX4_joinedBy_59 : decode cX4_joinedBy 59 = .ok (.ifCond .eq 7, 3) := by decide +kernel
theorem dX4_joinedBy_62 : decode cX4_joinedBy 62 = .ok (.iconst 1, 1) := by decide +kernel
theorem dX4_joinedBy_63 : decode cX4_joinedBy 63 = .ok (.goto 4, 3) := by decide +kernel
theorem dX4_joinedBy_66 : decode cX4_joinedBy 66 = .ok (.iconst 0, 1) := by decide +kernel
theorem dX4_joinedBy_67 : decode cX4_joinedBy 67 = .ok (.ireturn, 1) := by decide +kernel
theorem dX4_joinedBy_68 : decode cX4_joinedBy 68 = .ok (.iload_n 1, 1) := by decide +kernel
theorem dX4_joinedBy_69 : decode cX4_joinedBy 69 = .ok (.iload_n 2, 1) := by decide +kernel
theorem dX4_joinedBy_70 : decode cX4_joinedBy 70 = .ok (.if_icmp .ge 7, 3) := by decide +kernel
theorem dX4_joinedBy_73 : decode cX4_joinedBy 73 = .ok (.iconst 1, 1) := by decide +kernel
theorem dX4_joinedBy_74 : decode cX4_joinedBy 74 = .ok (.goto 4, 3) := by decide +kernel
theorem dX4_joinedBy_77 : decode cX4_joinedBy 77 = .ok (.iconst 0, 1) := by decide +kernel
theorem dX4_joinedBy_78 : decode cX4_joinedBy 78 = .ok (.ireturn, 1) := by decide +kernel
theorem dX4_joinedBy_79 : decode cX4_joinedBy 79 = .ok (.iload_n 1, 1) := by decide +kernel
theorem dX4_joinedBy_80 : decode cX4_joinedBy 80 = .ok (.iload_n 2, 1) := by decide +kernel
theorem dX4_joinedBy_81 : decode cX4_joinedBy 81 = .ok (.if_icmp .ne 7, 3) := by decide +kernel
theorem dX4_joinedBy_84 : decode cX4_joinedBy 84 = .ok (.iconst 1, 1) := by decide +kernel
theorem dX4_joinedBy_85 : decode cX4_joinedBy 85 = .ok (.goto 4, 3) := by decide +kernel
theorem dX4_joinedBy_88 : decode cX4_joinedBy 88 = .ok (.iconst 0, 1) := by decide +kernel
theorem dX4_joinedBy_89 : decode cX4_joinedBy 89 = .ok (.ireturn, 1) := by decide +kernel
theorem dX4_joinedBy_90 : decode cX4_joinedBy 90 = .ok (.iload_n 1, 1) := by decide +kernel
theorem dX4_joinedBy_91 : decode cX4_joinedBy 91 = .ok (.iload_n 2, 1) := by decide +kernel
theorem dX4_joinedBy_92 : decode cX4_joinedBy 92 = .ok (.iadd, 1) := by decide +kernel
theorem dX4_joinedBy_93 : decode cX4_joinedBy 93 = .ok (.ireturn, 1) := by decide +kernel
theorem dX4_joinedBy_94 : decode cX4_joinedBy 94 = .ok (.iload_n 1, 1) := by decide +kernel
theorem dX4_joinedBy_95 : decode cX4_joinedBy 95 = .ok (.iload_n 2, 1) := by decide +kernel
theorem dX4_joinedBy_96 : decode cX4_joinedBy 96 = .ok (.isub, 1) := by decide +kernel
theorem dX4_joinedBy_97 : decode cX4_joinedBy 97 = .ok (.ireturn, 1) := by decide +kernel
theorem dX4_joinedBy_98 : decode cX4_joinedBy 98 = .ok (.iload_n 1, 1) := by decide +kernel
theorem dX4_joinedBy_99 : decode cX4_joinedBy 99 = .ok (.iload_n 2, 1) := by decide +kernel
theorem dX4_joinedBy_100 : decode cX4_joinedBy 100 = .ok (.imul, 1) := by decide +kernel
theorem dX4_joinedBy_101 : decode cX4_joinedBy 101 = .ok (.ireturn, 1) := by decide +kernel
theorem dX5_init_0 : decode cX5_init 0 = .ok (.aload_n 0, 1) := by decide +kernel
theorem dX5_init_1 : decode cX5_init 1 = .ok (.invokespecial 3, 3) := by decide +kernel
theorem dX5_init_4 : decode cX5_init 4 = .ok (.aload_n 0, 1) := by decide +kernel
theorem dX5_init_5 : decode cX5_init 5 = .ok (.sipush 1000, 3) := by decide +kernel
theorem dX5_init_8 : decode cX5_init 8 = .ok (.newarray .int, 2) := by decide +kernel
theorem dX5_init_10 : decode cX5_init 10 = .ok (.putfield 9, 3) := by decide +kernel
theorem dX5_init_13 : decode cX5_init 13 = .ok (.aload_n 0, 1) := by decide +kernel
theorem dX5_init_14 : decode cX5_init 14 = .ok (.iconst 0, 1) := by decide +kernel
theorem dX5_init_15 : decode cX5_init 15 = .ok (.putfield 15, 3) := by decide +kernel
theorem dX5_init_18 : decode cX5_init 18 = .ok (.aload_n 0, 1) := by decide +kernel
theorem dX5_init_19 : decode cX5_init 19 = .ok (.getstatic 19, 3) := by decide +kernel
theorem dX5_init_22 : decode cX5_init 22 = .ok (.putfield 25, 3) := by decide +kernel
theorem dX5_init_25 : decode cX5_init 25 = .ok (.aload_n 0, 1) := by decide +kernel
theorem dX5_init_26 : decode cX5_init 26 = .ok (.aload_n 1, 1) := by decide +kernel
theorem dX5_init_27 : decode cX5_init 27 = .ok (.putfield 28, 3) := by decide +kernel
theorem dX5_init_30 : decode cX5_init 30 = .ok (.return_, 1) := by decide +kernel
set_option maxRecDepth 20000 in
theorem ggX5_read_X5_expression : GoodIn wsX5_read wsX5_expression := goodIn_r _ [11, 12, 13, 14, 15, 16, 17, 10, 18, 19, 20, 21, 22, 23, 24, 25, 26, 27, 28, 29, 30, 31, 32, 33, 34, 35, 2, 6, 36, 37, 38, 39, 40, 41, 42, 43, 44, 45, 46, 47, 48, 49, 50, 51, 1, 52, 53, 54, 55, 56, 7, 8, 9, 57, 58, 59, 60, 61, 62, 63, 64, 65, 66, 67, 68, 69, 70, 71, 72, 73, 74, 75, 76, 77, 78, 79, 80, 81, 82, 83, 111, 112, 113, 114, 117, 118, 119, 120, 121, 122, 123, 124] (by decide +kernel) (by decide +kernel)
set_option maxRecDepth 20000 in
theorem gX5_read_X5_expression : GoodIn wsX5_read (wsV RX5 32 RX5 yX5_expression wsX5_expression) := goodIn_app (goodIn_of _ (by decide +kernel)) ggX5_read_X5_expression
set_option maxRecDepth 20000 in
theorem ggX5_read_J7_copyOf_59c91 : GoodIn wsX5_read wsJ7_copyOf_59c91 := goodIn_r _ [87, 88, 89, 90, 91, 92, 93, 94, 95, 96, 97, 98, 99, 100, 101, 102] (by decide +kernel) (by decide +kernel)
set_option maxRecDepth 20000 in
theorem gX5_read_J7_copyOf_59c91 : GoodIn wsX5_read (va_wsS RX5 38 yJ7_copyOf_59c91 wsJ7_copyOf_59c91) := goodIn_app (goodIn_of _ (by decide +kernel)) ggX5_read_J7_copyOf_59c91
set_option maxRecDepth 20000 in
theorem ggX5_read_X4_init : GoodIn wsX5_read wsX4_init := goodIn_r _ [105, 106, 107, 108, 94, 109, 110, 115, 116] (by decide +kernel) (by decide +kernel)
set_option maxRecDepth 20000 in
theorem gX5_read_X4_init : GoodIn wsX5_read (wsX4_init) := ggX5_read_X4_init
theorem dX5_read_0 : decode cX5_read 0 = .ok (.aload_n 0, 1) := by decide +kernel
theorem dX5_read_1 : decode cX5_read 1 = .ok (.aload_n 1, 1) := by decide +kernel
theorem dX5_read_2 : decode cX5_read 2 = .ok (.putfield 25, 3) := by decide +kernel
theorem dX5_read_5 : decode cX5_read 5 = .ok (.aload_n 0, 1) := by decide +kernel
theorem dX5_read_6 : decode cX5_read 6 = .ok (.iconst 0, 1) := by decide +kernel
theorem dX5_read_7 : decode cX5_read 7 = .ok (.putfield 15, 3) := by decide +kernel
theorem dX5_read_10 : decode cX5_read 10 = .ok (.aload_n 0, 1) := by decide +kernel
theorem dX5_read_11 : decode cX5_read 11 = .ok (.iconst 0, 1) := by decide +kernel
theorem dX5_read_12 : decode cX5_read 12 = .ok (.invokevirtual 32, 3) := by decide +kernel
theorem dX5_read_15 : decode cX5_read 15 = .ok (.new 36, 3) := by decide +kernel
theorem dX5_read_18 : decode cX5_read 18 = .ok (.dup, 1) := by decide +kernel
theorem dX5_read_19 : decode cX5_read 19 = .ok (.aload_n 0, 1) := by decide +kernel
theorem dX5_read_20 : decode cX5_read 20 = .ok (.getfield 9, 3) := by decide +kernel
theorem dX5_read_23 : decode cX5_read 23 = .ok (.aload_n 0, 1) := by decide +kernel
theorem dX5_read_24 : decode cX5_read 24 = .ok (.getfield 15, 3) := by decide +kernel
theorem dX5_read_27 : decode cX5_read 27 = .ok (.invokestatic 38, 3) := by decide +kernel
theorem dX5_read_30 : decode cX5_read 30 = .ok (.invokespecial 44, 3) := by decide +kernel
theorem dX5_read_33 : decode cX5_read 33 = .ok (.areturn, 1) := by decide +kernel
theorem dX5_put_0 : decode cX5_put 0 = .ok (.aload_n 0, 1) := by decide +kernel
theorem dX5_put_1 : decode cX5_put 1 = .ok (.getfield 15, 3) := by decide +kernel
theorem dX5_put_4 : decode cX5_put 4 = .ok (.aload_n 0, 1) := by decide +kernel
theorem dX5_put_5 : decode cX5_put 5 = .ok (.getfield 9, 3) := by decide +kernel
theorem dX5_put_8 : decode cX5_put 8 = .ok (.arraylength, 1) := by decide +kernel
theorem dX5_put_9 : decode cX5_put 9 = .ok (.if_icmp .ge 23, 3) := by decide +kernel
theorem dX5_put_12 : decode cX5_put 12 = .ok (.aload_n 0, 1) := by decide +kernel
theorem dX5_put_13 : decode cX5_put 13 = .ok (.getfield 9, 3) := by decide +kernel
theorem dX5_put_16 : decode cX5_put 16 = .ok (.aload_n 0, 1) := by decide +kernel
theorem dX5_put_17 : decode cX5_put 17 = .ok (.getfield 15, 3) := by decide +kernel
theorem dX5_put_20 : decode cX5_put 20 = .ok (.iload_n 1, 1) := by decide +kernel
theorem dX5_put_21 : decode cX5_put 21 = .ok (.iastore, 1) := by decide +kernel
theorem dX5_put_22 : decode cX5_put 22 = .ok (.aload_n 0, 1) := by decide +kernel
theorem dX5_put_23 : decode cX5_put 23 = .ok (.dup, 1) := by decide +kernel
theorem dX5_put_24 : decode cX5_put 24 = .ok (.getfield 15, 3) := by decide +kernel
theorem dX5_put_27 : decode cX5_put 27 = .ok (.iconst 1, 1) := by decide +kernel
theorem dX5_put_28 : decode cX5_put 28 = .ok (.iadd, 1) := by decide +kernel
theorem dX5_put_29 : decode cX5_put 29 = .ok (.putfield 15, 3) := by decide +kernel
theorem dX5_put_32 : decode cX5_put 32 = .ok (.return_, 1) := by decide +kernel
set_option maxRecDepth 20000 in
theorem ggX5_expression_X5_test : GoodIn wsX5_expression wsX5_test := goodIn_r _ [76, 1, 77, 78, 79, 7, 30, 31, 32, 11, 33, 15, 13, 14, 16, 18, 19, 20, 21, 22, 23, 24, 25, 26, 27, 0, 2, 3, 4, 5, 6, 8, 9, 10, 12, 17, 28, 29, 34, 35, 36, 37, 38, 39, 40, 41, 42, 43, 44, 45, 46, 47, 48, 49, 50, 51, 52, 53, 54, 55, 56, 57, 58, 59, 60, 61, 62, 63, 64, 65, 66, 67, 68, 69, 70, 71, 72, 73, 74, 75, 80, 81, 82, 83, 84, 85, 86, 87, 88, 89, 90, 91] (by decide +kernel) (by decide +kernel)
set_option maxRecDepth 20000 in
theorem gX5_expression_X5_test : GoodIn wsX5_expression (wsV RX5 47 RX5 yX5_test wsX5_test) := goodIn_app (goodIn_of _ (by decide +kernel)) ggX5_expression_X5_test
set_option maxRecDepth 20000 in
theorem ggX5_expression_X8_isAt_ : GoodIn wsX5_expression wsX8_isAt_ := goodIn_r _ [12, 13, 14, 15, 16, 17, 84, 85, 86, 87, 88, 89, 90, 91] (by decide +kernel) (by decide +kernel)
set_option maxRecDepth 20000 in
theorem gX5_expression_X8_isAt_ : GoodIn wsX5_expression (wsV RX5 53 RX8 yX8_isAt_ wsX8_isAt_) := goodIn_app (goodIn_of _ (by decide +kernel)) ggX5_expression_X8_isAt_
set_option maxRecDepth 20000 in
theorem ggX5_expression_X8_step : GoodIn wsX5_expression wsX8_step := goodIn_r _ [21, 15, 13, 14, 84, 85, 86, 87, 88, 89, 90, 91] (by decide +kernel) (by decide +kernel)
set_option maxRecDepth 20000 in
theorem gX5_expression_X8_step : GoodIn wsX5_expression (wsV RX5 62 RX8 yX8_step wsX8_step) := goodIn_app (goodIn_of _ (by decide +kernel)) ggX5_expression_X8_step
set_option maxRecDepth 20000 in
theorem ggX5_expression_X5_put : GoodIn wsX5_expression wsX5_put := goodIn_r _ [25, 26, 27, 80, 81, 82, 83] (by decide +kernel) (by decide +kernel)
set_option maxRecDepth 20000 in
theorem gX5_expression_X5_put : GoodIn wsX5_expression (wsV RX5 65 RX5 yX5_put wsX5_put) := goodIn_app (goodIn_of _ (by decide +kernel)) ggX5_expression_X5_put
theorem dX5_expression_0 : decode cX5_expression 0 = .ok (.aload_n 0, 1) := by decide +kernel
theorem dX5_expression_1 : decode cX5_expression 1 = .ok (.iload_n 1, 1) := by decide +kernel
theorem dX5_expression_2 : decode cX5_expression 2 = .ok (.invokevirtual 47, 3) := by decide +kernel
theorem dX5_expression_5 : decode cX5_expression 5 = .ok (.iconst 0, 1) := by decide +kernel
theorem dX5_expression_6 : decode cX5_expression 6 = .ok (.istore_n 2, 1) := by decide +kernel
theorem dX5_expression_7 : decode cX5_expression 7 = .ok (.iload_n 2, 1) := by decide +kernel
theorem dX5_expression_8 : decode cX5_expression 8 = .ok (.sipush 1000, 3) := by decide +kernel
theorem dX5_expression_11 : decode cX5_expression 11 = .ok (.if_icmp .ge 73, 3) := by decide +kernel
theorem dX5_expression_14 : decode cX5_expression 14 = .ok (.aload_n 0, 1) := by decide +kernel
theorem dX5_expression_15 : decode cX5_expression 15 = .ok (.getfield 28, 3) := by decide +kernel
theorem dX5_expression_18 : decode cX5_expression 18 = .ok (.getstatic 50, 3) := by decide +kernel
theorem dX5_expression_21 : decode cX5_expression 21 = .ok (.invokevirtual 53, 3) := by decide +kernel
theorem dX5_expression_24 : decode cX5_expression 24 = .ok (.ifCond .ne 16, 3) := by decide +kernel
theorem dX5_expression_27 : decode cX5_expression 27 = .ok (.aload_n 0, 1) := by decide +kernel
theorem dX5_expression_28 : decode cX5_expression 28 = .ok (.getfield 28, 3) := by decide +kernel
theorem dX5_expression_31 : decode cX5_expression 31 = .ok (.getstatic 59, 3) := by decide +kernel
theorem dX5_expression_34 : decode cX5_expression 34 = .ok (.invokevirtual 53, 3) := by decide +kernel
theorem dX5_expression_37 : decode cX5_expression 37 = .ok (.ifCond .eq 47, 3) := by decide +kernel
theorem dX5_expression_40 : decode cX5_expression 40 = .ok (.aload_n 0, 1) := by decide +kernel
theorem dX5_expression_41 : decode cX5_expression 41 = .ok (.getfield 28, 3) := by decide +kernel
theorem dX5_expression_44 : decode cX5_expression 44 = .ok (.getstatic 50, 3) := by decide +kernel
theorem dX5_expression_47 : decode cX5_expression 47 = .ok (.invokevirtual 53, 3) := by decide +kernel
theorem dX5_expression_50 : decode cX5_expression 50 = .ok (.ifCond .eq 8, 3) := by decide +kernel
theorem dX5_expression_53 : decode cX5_expression 53 = .ok (.bipush (-5), 2) := by decide +kernel
theorem dX5_expression_55 : decode cX5_expression 55 = .ok (.goto 5, 3) := by decide +kernel
theorem dX5_expression_58 : decode cX5_expression 58 = .ok (.bipush (-6), 2) := by decide +kernel
theorem dX5_expression_60 : decode cX5_expression 60 = .ok (.istore_n 3, 1) := by decide +kernel
theorem dX5_expression_61 : decode cX5_expression 61 = .ok (.aload_n 0, 1) := by decide +kernel
theorem dX5_expression_62 : decode cX5_expression 62 = .ok (.getfield 28, 3) := by decide +kernel
theorem dX5_expression_65 : decode cX5_expression 65 = .ok (.invokevirtual 62, 3) := by decide +kernel
theorem dX5_expression_68 : decode cX5_expression 68 = .ok (.aload_n 0, 1) := by decide +kernel
theorem dX5_expression_69 : decode cX5_expression 69 = .ok (.iload_n 1, 1) := by decide +kernel
theorem dX5_expression_70 : decode cX5_expression 70 = .ok (.invokevirtual 47, 3) := by decide +kernel
theorem dX5_expression_73 : decode cX5_expression 73 = .ok (.aload_n 0, 1) := by decide +kernel
theorem dX5_expression_74 : decode cX5_expression 74 = .ok (.iload_n 3, 1) := by decide +kernel
theorem dX5_expression_75 : decode cX5_expression 75 = .ok (.invokevirtual 65, 3) := by decide +kernel
theorem dX5_expression_78 : decode cX5_expression 78 = .ok (.iinc 2 1, 3) := by decide +kernel
theorem dX5_expression_81 : decode cX5_expression 81 = .ok (.goto (-74), 3) := by decide +kernel
theorem dX5_expression_84 : decode cX5_expression 84 = .ok (.return_, 1) := by decide +kernel
set_option maxRecDepth 20000 in
theorem ggX5_test_X5_sum : GoodIn wsX5_test wsX5_sum := goodIn_r _ [76, 1, 77, 78, 79, 5, 6, 7, 8, 9, 10, 11, 12, 13, 14, 15, 16, 17, 18, 19, 20, 21, 22, 23, 24, 25, 26, 27, 28, 29, 30, 31, 32, 33, 34, 35, 36, 37, 38, 39, 40, 41, 42, 43, 44, 45, 46, 47, 48, 49, 50, 51, 52, 53, 54, 55, 56, 57, 58, 59, 60, 61, 62, 63, 64, 65, 66, 67, 68, 69, 70, 71, 72, 73, 74, 75, 0, 2, 3, 4, 80, 81, 82, 83, 84, 85, 86, 87, 88, 89, 90, 91] (by decide +kernel) (by decide +kernel)
set_option maxRecDepth 20000 in
theorem gX5_test_X5_sum : GoodIn wsX5_test (wsV RX5 68 RX5 yX5_sum wsX5_sum) := goodIn_app (goodIn_of _ (by decide +kernel)) ggX5_test_X5_sum
set_option maxRecDepth 20000 in
theorem ggX5_test_X8_isAt : GoodIn wsX5_test wsX8_isAt := goodIn_r _ [10, 11, 12, 13, 14, 84, 85, 86, 87, 88, 89, 90, 91] (by decide +kernel) (by decide +kernel)
set_option maxRecDepth 20000 in
theorem gX5_test_X8_isAt : GoodIn wsX5_test (wsV RX5 71 RX8 yX8_isAt wsX8_isAt) := goodIn_app (goodIn_of _ (by decide +kernel)) ggX5_test_X8_isAt
set_option maxRecDepth 20000 in
theorem ggX5_test_X8_step : GoodIn wsX5_test wsX8_step := goodIn_r _ [18, 11, 12, 13, 84, 85, 86, 87, 88, 89, 90, 91] (by decide +kernel) (by decide +kernel)
set_option maxRecDepth 20000 in
theorem gX5_test_X8_step : GoodIn wsX5_test (wsV RX5 62 RX8 yX8_step wsX8_step) := goodIn_app (goodIn_of _ (by decide +kernel)) ggX5_test_X8_step
set_option maxRecDepth 20000 in
theorem ggX5_test_X5_put : GoodIn wsX5_test wsX5_put := goodIn_r _ [22, 23, 24, 80, 81, 82, 83] (by decide +kernel) (by decide +kernel)
set_option maxRecDepth 20000 in
theorem gX5_test_X5_put : GoodIn wsX5_test (wsV RX5 65 RX5 yX5_put wsX5_put) := goodIn_app (goodIn_of _ (by decide +kernel)) ggX5_test_X5_put
theorem dX5_test_0 : decode cX5_test 0 = .ok (.aload_n 0, 1) := by decide +kernel
theorem dX5_test_1 : decode cX5_test 1 = .ok (.iload_n 1, 1) := by decide +kernel
theorem dX5_test_2 : decode cX5_test 2 = .ok (.invokevirtual 68, 3) := by decide +kernel
theorem dX5_test_5 : decode cX5_test 5 = .ok (.aload_n 0, 1) := by decide +kernel
theorem dX5_test_6 : decode cX5_test 6 = .ok (.getfield 28, 3) := by decide +kernel
theorem dX5_test_9 : decode cX5_test 9 = .ok (.bipush 60, 2) := by decide +kernel
theorem dX5_test_11 : decode cX5_test 11 = .ok (.invokevirtual 71, 3) := by decide +kernel
theorem dX5_test_14 : decode cX5_test 14 = .ok (.ifCond .ne 15, 3) := by decide +kernel
theorem dX5_test_17 : decode cX5_test 17 = .ok (.aload_n 0, 1) := by decide +kernel
theorem dX5_test_18 : decode cX5_test 18 = .ok (.getfield 28, 3) := by decide +kernel
theorem dX5_test_21 : decode cX5_test 21 = .ok (.bipush 61, 2) := by decide +kernel
theorem dX5_test_23 : decode cX5_test 23 = .ok (.invokevirtual 71, 3) := by decide +kernel
theorem dX5_test_26 : decode cX5_test 26 = .ok (.ifCond .eq 40, 3) := by decide +kernel
theorem dX5_test_29 : decode cX5_test 29 = .ok (.aload_n 0, 1) := by decide +kernel
theorem dX5_test_30 : decode cX5_test 30 = .ok (.getfield 28, 3) := by decide +kernel
theorem dX5_test_33 : decode cX5_test 33 = .ok (.bipush 60, 2) := by decide +kernel
theorem dX5_test_35 : decode cX5_test 35 = .ok (.invokevirtual 71, 3) := by decide +kernel
theorem dX5_test_38 : decode cX5_test 38 = .ok (.ifCond .eq 8, 3) := by decide +kernel
theorem dX5_test_41 : decode cX5_test 41 = .ok (.bipush (-7), 2) := by decide +kernel
theorem dX5_test_43 : decode cX5_test 43 = .ok (.goto 5, 3) := by decide +kernel
theorem dX5_test_46 : decode cX5_test 46 = .ok (.bipush (-8), 2) := by decide +kernel
theorem dX5_test_48 : decode cX5_test 48 = .ok (.istore_n 2, 1) := by decide +kernel
theorem dX5_test_49 : decode cX5_test 49 = .ok (.aload_n 0, 1) := by decide +kernel
theorem dX5_test_50 : decode cX5_test 50 = .ok (.getfield 28, 3) := by decide +kernel
theorem dX5_test_53 : decode cX5_test 53 = .ok (.invokevirtual 62, 3) := by decide +kernel
theorem dX5_test_56 : decode cX5_test 56 = .ok (.aload_n 0, 1) := by decide +kernel
theorem dX5_test_57 : decode cX5_test 57 = .ok (.iload_n 1, 1) := by decide +kernel
theorem dX5_test_58 : decode cX5_test 58 = .ok (.invokevirtual 68, 3) := by decide +kernel
theorem dX5_test_61 : decode cX5_test 61 = .ok (.aload_n 0, 1) := by decide +kernel
theorem dX5_test_62 : decode cX5_test 62 = .ok (.iload_n 2, 1) := by decide +kernel
theorem dX5_test_63 : decode cX5_test 63 = .ok (.invokevirtual 65, 3) := by decide +kernel
theorem dX5_test_66 : decode cX5_test 66 = .ok (.return_, 1) := by decide +kernel
set_option maxRecDepth 20000 in
theorem ggX5_sum_X5_product : GoodIn wsX5_sum wsX5_product := goodIn_r _ [75, 1, 64, 65, 66, 5, 6, 7, 8, 9, 10, 11, 12, 13, 14, 15, 16, 17, 18, 19, 20, 21, 22, 23, 24, 25, 26, 27, 28, 29, 30, 31, 32, 33, 34, 35, 36, 37, 38, 39, 40, 41, 42, 43, 44, 45, 46, 47, 48, 49, 50, 51, 52, 53, 54, 55, 56, 57, 58, 59, 60, 61, 62, 63, 67, 68, 69, 70, 71, 72, 73, 74, 0, 2, 3, 4, 76, 77, 78, 79, 80, 81, 82, 83, 84, 85, 86, 87, 88, 89, 90, 91] (by decide +kernel) (by decide +kernel)
set_option maxRecDepth 20000 in
theorem gX5_sum_X5_product : GoodIn wsX5_sum (wsV RX5 74 RX5 yX5_product wsX5_product) := goodIn_app (goodIn_of _ (by decide +kernel)) ggX5_sum_X5_product
set_option maxRecDepth 20000 in
theorem ggX5_sum_X8_isAt : GoodIn wsX5_sum wsX8_isAt := goodIn_r _ [10, 11, 12, 13, 14, 84, 85, 86, 87, 88, 89, 90, 91] (by decide +kernel) (by decide +kernel)
set_option maxRecDepth 20000 in
theorem gX5_sum_X8_isAt : GoodIn wsX5_sum (wsV RX5 71 RX8 yX8_isAt wsX8_isAt) := goodIn_app (goodIn_of _ (by decide +kernel)) ggX5_sum_X8_isAt
set_option maxRecDepth 20000 in
theorem ggX5_sum_X8_step : GoodIn wsX5_sum wsX8_step := goodIn_r _ [18, 11, 12, 13, 84, 85, 86, 87, 88, 89, 90, 91] (by decide +kernel) (by decide +kernel)
set_option maxRecDepth 20000 in
theorem gX5_sum_X8_step : GoodIn wsX5_sum (wsV RX5 62 RX8 yX8_step wsX8_step) := goodIn_app (goodIn_of _ (by decide +kernel)) ggX5_sum_X8_step
set_option maxRecDepth 20000 in
theorem ggX5_sum_X5_put : GoodIn wsX5_sum wsX5_put := goodIn_r _ [22, 23, 24, 80, 81, 82, 83] (by decide +kernel) (by decide +kernel)
set_option maxRecDepth 20000 in
theorem gX5_sum_X5_put : GoodIn wsX5_sum (wsV RX5 65 RX5 yX5_put wsX5_put) := goodIn_app (goodIn_of _ (by decide +kernel)) ggX5_sum_X5_put
theorem dX5_sum_0 : decode cX5_sum 0 = .ok (.aload_n 0, 1) := by decide +kernel
theorem dX5_sum_1 : decode cX5_sum 1 = .ok (.iload_n 1, 1) := by decide +kernel
theorem dX5_sum_2 : decode cX5_sum 2 = .ok (.invokevirtual 74, 3) := by decide +kernel
theorem dX5_sum_5 : decode cX5_sum 5 = .ok (.iconst 0, 1) := by decide +kernel
theorem dX5_sum_6 : decode cX5_sum 6 = .ok (.istore_n 2, 1) := by decide +kernel
theorem dX5_sum_7 : decode cX5_sum 7 = .ok (.iload_n 2, 1) := by decide +kernel
theorem dX5_sum_8 : decode cX5_sum 8 = .ok (.sipush 1000, 3) := by decide +kernel
theorem dX5_sum_11 : decode cX5_sum 11 = .ok (.if_icmp .ge 70, 3) := by decide +kernel
theorem dX5_sum_14 : decode cX5_sum 14 = .ok (.aload_n 0, 1) := by decide +kernel
theorem dX5_sum_15 : decode cX5_sum 15 = .ok (.getfield 28, 3) := by decide +kernel
theorem dX5_sum_18 : decode cX5_sum 18 = .ok (.bipush 43, 2) := by decide +kernel
theorem dX5_sum_20 : decode cX5_sum 20 = .ok (.invokevirtual 71, 3) := by decide +kernel
theorem dX5_sum_23 : decode cX5_sum 23 = .ok (.ifCond .ne 15, 3) := by decide +kernel
theorem dX5_sum_26 : decode cX5_sum 26 = .ok (.aload_n 0, 1) := by decide +kernel
theorem dX5_sum_27 : decode cX5_sum 27 = .ok (.getfield 28, 3) := by decide +kernel
theorem dX5_sum_30 : decode cX5_sum 30 = .ok (.bipush 45, 2) := by decide +kernel
theorem dX5_sum_32 : decode cX5_sum 32 = .ok (.invokevirtual 71, 3) := by decide +kernel
theorem dX5_sum_35 : decode cX5_sum 35 = .ok (.ifCond .eq 46, 3) := by decide +kernel
theorem dX5_sum_38 : decode cX5_sum 38 = .ok (.aload_n 0, 1) := by decide +kernel
theorem dX5_sum_39 : decode cX5_sum 39 = .ok (.getfield 28, 3) := by decide +kernel
theorem dX5_sum_42 : decode cX5_sum 42 = .ok (.bipush 43, 2) := by decide +kernel
theorem dX5_sum_44 : decode cX5_sum 44 = .ok (.invokevirtual 71, 3) := by decide +kernel
theorem dX5_sum_47 : decode cX5_sum 47 = .ok (.ifCond .eq 8, 3) := by decide +kernel
theorem dX5_sum_50 : decode cX5_sum 50 = .ok (.bipush (-9), 2) := by decide +kernel
theorem dX5_sum_52 : decode cX5_sum 52 = .ok (.goto 5, 3) := by decide +kernel
theorem dX5_sum_55 : decode cX5_sum 55 = .ok (.bipush (-10), 2) := by decide +kernel
theorem dX5_sum_57 : decode cX5_sum 57 = .ok (.istore_n 3, 1) := by decide +kernel
theorem dX5_sum_58 : decode cX5_sum 58 = .ok (.aload_n 0, 1) := by decide +kernel
theorem dX5_sum_59 : decode cX5_sum 59 = .ok (.getfield 28, 3) := by decide +kernel
theorem dX5_sum_62 : decode cX5_sum 62 = .ok (.invokevirtual 62, 3) := by decide +kernel
theorem dX5_sum_65 : decode cX5_sum 65 = .ok (.aload_n 0, 1) := by decide +kernel
theorem dX5_sum_66 : decode cX5_sum 66 = .ok (.iload_n 1, 1) := by decide +kernel
theorem dX5_sum_67 : decode cX5_sum 67 = .ok (.invokevirtual 74, 3) := by decide +kernel
theorem dX5_sum_70 : decode cX5_sum 70 = .ok (.aload_n 0, 1) := by decide +kernel
theorem dX5_sum_71 : decode cX5_sum 71 = .ok (.iload_n 3, 1) := by decide +kernel
theorem dX5_sum_72 : decode cX5_sum 72 = .ok (.invokevirtual 65, 3) := by decide +kernel
theorem dX5_sum_75 : decode cX5_sum 75 = .ok (.iinc 2 1, 3) := by decide +kernel
theorem dX5_sum_78 : decode cX5_sum 78 = .ok (.goto (-71), 3) := by decide +kernel
theorem dX5_sum_81 : decode cX5_sum 81 = .ok (.return_, 1) := by decide +kernel
set_option maxRecDepth 20000 in
theorem ggX5_product_X5_part : GoodIn wsX5_product wsX5_part := goodIn_r _ [36, 1, 37, 6, 7, 8, 9, 10, 11, 12, 13, 14, 31, 32, 33, 34, 35, 38, 39, 40, 41, 42, 43, 44, 5, 45, 46, 47, 48, 49, 50, 51, 52, 53, 15, 16, 17, 18, 54, 55, 56, 57, 58, 59, 60, 61, 62, 63, 2, 3, 4, 19, 20, 21, 22, 23, 24, 64, 65, 66, 67, 68, 69, 70, 71, 25, 26, 27, 28, 29, 30, 0, 72, 73, 74, 75, 76, 77, 78, 79, 80, 81, 82, 83, 84, 85, 86, 87, 88, 89, 90, 91] (by decide +kernel) (by decide +kernel)
set_option maxRecDepth 20000 in
theorem gX5_product_X5_part : GoodIn wsX5_product (wsV RX5 77 RX5 yX5_part wsX5_part) := goodIn_app (goodIn_of _ (by decide +kernel)) ggX5_product_X5_part
set_option maxRecDepth 20000 in
theorem ggX5_product_X8_isAt : GoodIn wsX5_product wsX8_isAt := goodIn_r _ [10, 11, 12, 13, 14, 84, 85, 86, 87, 88, 89, 90, 91] (by decide +kernel) (by decide +kernel)
set_option maxRecDepth 20000 in
theorem gX5_product_X8_isAt : GoodIn wsX5_product (wsV RX5 71 RX8 yX8_isAt wsX8_isAt) := goodIn_app (goodIn_of _ (by decide +kernel)) ggX5_product_X8_isAt
set_option maxRecDepth 20000 in
theorem ggX5_product_X8_step : GoodIn wsX5_product wsX8_step := goodIn_r _ [18, 11, 12, 13, 84, 85, 86, 87, 88, 89, 90, 91] (by decide +kernel) (by decide +kernel)
set_option maxRecDepth 20000 in
theorem gX5_product_X8_step : GoodIn wsX5_product (wsV RX5 62 RX8 yX8_step wsX8_step) := goodIn_app (goodIn_of _ (by decide +kernel)) ggX5_product_X8_step
set_option maxRecDepth 20000 in
theorem ggX5_product_X5_put : GoodIn wsX5_product wsX5_put := goodIn_r _ [22, 23, 24, 80, 81, 82, 83] (by decide +kernel) (by decide +kernel)
set_option maxRecDepth 20000 in
theorem gX5_product_X5_put : GoodIn wsX5_product (wsV RX5 65 RX5 yX5_put wsX5_put) := goodIn_app (goodIn_of _ (by decide +kernel)) ggX5_product_X5_put
theorem dX5_product_0 : decode cX5_product 0 = .ok (.aload_n 0, 1) := by decide +kernel
theorem dX5_product_1 : decode cX5_product 1 = .ok (.iload_n 1, 1) := by decide +kernel
theorem dX5_product_2 : decode cX5_product 2 = .ok (.invokevirtual 77, 3) := by decide +kernel
theorem dX5_product_5 : decode cX5_product 5 = .ok (.iconst 0, 1) := by decide +kernel
theorem dX5_product_6 : decode cX5_product 6 = .ok (.istore_n 2, 1) := by decide +kernel
theorem dX5_product_7 : decode cX5_product 7 = .ok (.iload_n 2, 1) := by decide +kernel
theorem dX5_product_8 : decode cX5_product 8 = .ok (.sipush 1000, 3) := by decide +kernel
theorem dX5_product_11 : decode cX5_product 11 = .ok (.if_icmp .ge 39, 3) := by decide +kernel
theorem dX5_product_14 : decode cX5_product 14 = .ok (.aload_n 0, 1) := by decide +kernel
theorem dX5_product_15 : decode cX5_product 15 = .ok (.getfield 28, 3) := by decide +kernel
theorem dX5_product_18 : decode cX5_product 18 = .ok (.bipush 42, 2) := by decide +kernel
theorem dX5_product_20 : decode cX5_product 20 = .ok (.invokevirtual 71, 3) := by decide +kernel
theorem dX5_product_23 : decode cX5_product 23 = .ok (.ifCond .eq 27, 3) := by decide +kernel
theorem dX5_product_26 : decode cX5_product 26 = .ok (.aload_n 0, 1) := by decide +kernel
theorem dX5_product_27 : decode cX5_product 27 = .ok (.getfield 28, 3) := by decide +kernel
theorem dX5_product_30 : decode cX5_product 30 = .ok (.invokevirtual 62, 3) := by decide +kernel
theorem dX5_product_33 : decode cX5_product 33 = .ok (.aload_n 0, 1) := by decide +kernel
theorem dX5_product_34 : decode cX5_product 34 = .ok (.iload_n 1, 1) := by decide +kernel
theorem dX5_product_35 : decode cX5_product 35 = .ok (.invokevirtual 77, 3) := by decide +kernel
theorem dX5_product_38 : decode cX5_product 38 = .ok (.aload_n 0, 1) := by decide +kernel
theorem dX5_product_39 : decode cX5_product 39 = .ok (.bipush (-11), 2) := by decide +kernel
theorem dX5_product_41 : decode cX5_product 41 = .ok (.invokevirtual 65, 3) := by decide +kernel
theorem dX5_product_44 : decode cX5_product 44 = .ok (.iinc 2 1, 3) := by decide +kernel
theorem dX5_product_47 : decode cX5_product 47 = .ok (.goto (-40), 3) := by decide +kernel
theorem dX5_product_50 : decode cX5_product 50 = .ok (.return_, 1) := by decide +kernel
set_option maxRecDepth 20000 in
theorem ggX5_part_X8_isAt : GoodIn wsX5_part wsX8_isAt := goodIn_r _ [7, 8, 9, 10, 11, 84, 85, 86, 87, 88, 89, 90, 91] (by decide +kernel) (by decide +kernel)
set_option maxRecDepth 20000 in
theorem gX5_part_X8_isAt : GoodIn wsX5_part (wsV RX5 71 RX8 yX8_isAt wsX8_isAt) := goodIn_app (goodIn_of _ (by decide +kernel)) ggX5_part_X8_isAt
set_option maxRecDepth 20000 in
theorem ggX5_part_X8_isAt_ : GoodIn wsX5_part wsX8_isAt_ := goodIn_r _ [15, 9, 10, 8, 11, 16, 84, 85, 86, 87, 88, 89, 90, 91] (by decide +kernel) (by decide +kernel)
set_option maxRecDepth 20000 in
theorem gX5_part_X8_isAt_ : GoodIn wsX5_part (wsV RX5 53 RX8 yX8_isAt_ wsX8_isAt_) := goodIn_app (goodIn_of _ (by decide +kernel)) ggX5_part_X8_isAt_
set_option maxRecDepth 20000 in
theorem ggX5_part_X8_isNumber : GoodIn wsX5_part wsX8_isNumber := goodIn_r _ [20, 8, 9, 10, 84, 85, 86, 87, 88, 89, 90, 91] (by decide +kernel) (by decide +kernel)
set_option maxRecDepth 20000 in
theorem gX5_part_X8_isNumber : GoodIn wsX5_part (wsV RX5 83 RX8 yX8_isNumber wsX8_isNumber) := goodIn_app (goodIn_of _ (by decide +kernel)) ggX5_part_X8_isNumber
set_option maxRecDepth 20000 in
theorem ggX5_part_X5_isFact : GoodIn wsX5_part wsX5_isFact := goodIn_r _ [25, 1, 26, 27, 28, 12, 13, 14, 6, 15, 9, 10, 8, 11, 16, 80, 81, 82, 83, 84, 85, 86, 87, 88, 89, 90, 91] (by decide +kernel) (by decide +kernel)
set_option maxRecDepth 20000 in
theorem gX5_part_X5_isFact : GoodIn wsX5_part (wsV RX5 87 RX5 yX5_isFact wsX5_isFact) := goodIn_app (goodIn_of _ (by decide +kernel)) ggX5_part_X5_isFact
set_option maxRecDepth 20000 in
theorem ggX5_part_X8_fail : GoodIn wsX5_part wsX8_fail := goodIn_r _ [32, 8, 33, 10, 84, 85, 86, 87, 88, 89, 90, 91] (by decide +kernel) (by decide +kernel)
set_option maxRecDepth 20000 in
theorem gX5_part_X8_fail : GoodIn wsX5_part (wsV RX5 90 RX8 yX8_fail wsX8_fail) := goodIn_app (goodIn_of _ (by decide +kernel)) ggX5_part_X8_fail
set_option maxRecDepth 20000 in
theorem ggX5_part_X8_step : GoodIn wsX5_part wsX8_step := goodIn_r _ [37, 8, 9, 10, 84, 85, 86, 87, 88, 89, 90, 91] (by decide +kernel) (by decide +kernel)
set_option maxRecDepth 20000 in
theorem gX5_part_X8_step : GoodIn wsX5_part (wsV RX5 62 RX8 yX8_step wsX8_step) := goodIn_app (goodIn_of _ (by decide +kernel)) ggX5_part_X8_step
set_option maxRecDepth 20000 in
theorem ggX5_part_X5_expression : GoodIn wsX5_part wsX5_expression := goodIn_r _ [65, 1, 66, 67, 68, 69, 70, 24, 12, 13, 14, 6, 15, 9, 10, 8, 11, 16, 34, 35, 36, 37, 51, 52, 53, 54, 55, 56, 0, 2, 3, 4, 5, 7, 17, 18, 19, 20, 21, 22, 23, 25, 26, 27, 28, 29, 30, 31, 32, 33, 38, 39, 40, 41, 42, 43, 44, 45, 46, 47, 48, 49, 50, 57, 58, 59, 60, 61, 62, 63, 64, 71, 72, 73, 74, 75, 76, 77, 78, 79, 80, 81, 82, 83, 84, 85, 86, 87, 88, 89, 90, 91] (by decide +kernel) (by decide +kernel)
set_option maxRecDepth 20000 in
theorem gX5_part_X5_expression : GoodIn wsX5_part (wsV RX5 32 RX5 yX5_expression wsX5_expression) := goodIn_app (goodIn_of _ (by decide +kernel)) ggX5_part_X5_expression
set_option maxRecDepth 20000 in
theorem ggX5_part_X8_need : GoodIn wsX5_part wsX8_need := goodIn_r _ [44, 45, 4, 5, 6, 7, 8, 9, 10, 11, 46, 35, 36, 37, 47, 30, 31, 32, 33, 84, 85, 86, 87, 88, 89, 90, 91] (by decide +kernel) (by decide +kernel)
set_option maxRecDepth 20000 in
theorem gX5_part_X8_need : GoodIn wsX5_part (wsV RX5 93 RX8 yX8_need wsX8_need) := goodIn_app (goodIn_of _ (by decide +kernel)) ggX5_part_X8_need
set_option maxRecDepth 20000 in
theorem ggX5_part_X5_part : GoodIn wsX5_part wsX5_part := goodIn_r _ [0, 1, 2, 3, 4, 5, 6, 7, 8, 9, 10, 11, 12, 13, 14, 15, 16, 17, 18, 19, 20, 21, 22, 23, 24, 25, 26, 27, 28, 29, 30, 31, 32, 33, 34, 35, 36, 37, 38, 39, 40, 41, 42, 43, 44, 45, 46, 47, 48, 49, 50, 51, 52, 53, 54, 55, 56, 57, 58, 59, 60, 61, 62, 63, 64, 65, 66, 67, 68, 69, 70, 71, 72, 73, 74, 75, 76, 77, 78, 79, 80, 81, 82, 83, 84, 85, 86, 87, 88, 89, 90, 91] (by decide +kernel) (by decide +kernel)
set_option maxRecDepth 20000 in
theorem gX5_part_X5_part : GoodIn wsX5_part (wsV RX5 77 RX5 yX5_part wsX5_part) := goodIn_app (goodIn_of _ (by decide +kernel)) ggX5_part_X5_part
set_option maxRecDepth 20000 in
theorem ggX5_part_X5_put : GoodIn wsX5_part wsX5_put := goodIn_r _ [54, 55, 56, 80, 81, 82, 83] (by decide +kernel) (by decide +kernel)
set_option maxRecDepth 20000 in
theorem gX5_part_X5_put : GoodIn wsX5_part (wsV RX5 65 RX5 yX5_put wsX5_put) := goodIn_app (goodIn_of _ (by decide +kernel)) ggX5_part_X5_put
set_option maxRecDepth 20000 in
theorem ggX5_part_X8_number : GoodIn wsX5_part wsX8_number := goodIn_r _ [60, 11, 10, 84, 85, 86, 87, 88, 89, 90, 91] (by decide +kernel) (by decide +kernel)
set_option maxRecDepth 20000 in
theorem gX5_part_X8_number : GoodIn wsX5_part (wsV RX5 97 RX8 yX8_number wsX8_number) := goodIn_app (goodIn_of _ (by decide +kernel)) ggX5_part_X8_number
set_option maxRecDepth 20000 in
theorem ggX5_part_X5_factStep : GoodIn wsX5_part wsX5_factStep := goodIn_r _ [64, 1, 26, 27, 12, 13, 14, 6, 15, 9, 10, 8, 11, 16, 80, 81, 82, 83, 84, 85, 86, 87, 88, 89, 90, 91] (by decide +kernel) (by decide +kernel)
set_option maxRecDepth 20000 in
theorem gX5_part_X5_factStep : GoodIn wsX5_part (wsV RX5 101 RX5 yX5_factStep wsX5_factStep) := goodIn_app (goodIn_of _ (by decide +kernel)) ggX5_part_X5_factStep
theorem dX5_part_0 : decode cX5_part 0 = .ok (.aload_n 0, 1) := by decide +kernel
theorem dX5_part_1 : decode cX5_part 1 = .ok (.getfield 28, 3) := by decide +kernel
theorem dX5_part_4 : decode cX5_part 4 = .ok (.bipush 40, 2) := by decide +kernel
theorem dX5_part_6 : decode cX5_part 6 = .ok (.invokevirtual 71, 3) := by decide +kernel
theorem dX5_part_9 : decode cX5_part 9 = .ok (.istore_n 2, 1) := by decide +kernel
theorem dX5_part_10 : decode cX5_part 10 = .ok (.aload_n 0, 1) := by decide +kernel
theorem dX5_part_11 : decode cX5_part 11 = .ok (.getfield 28, 3) := by decide +kernel
theorem dX5_part_14 : decode cX5_part 14 = .ok (.getstatic 80, 3) := by decide +kernel
theorem dX5_part_17 : decode cX5_part 17 = .ok (.invokevirtual 53, 3) := by decide +kernel
theorem dX5_part_20 : decode cX5_part 20 = .ok (.istore_n 3, 1) := by decide +kernel
theorem dX5_part_21 : decode cX5_part 21 = .ok (.iload_n 2, 1) := by decide +kernel
theorem dX5_part_22 : decode cX5_part 22 = .ok (.ifCond .ne 35, 3) := by decide +kernel
theorem dX5_part_25 : decode cX5_part 25 = .ok (.iload_n 3, 1) := by decide +kernel
theorem dX5_part_26 : decode cX5_part 26 = .ok (.ifCond .ne 31, 3) := by decide +kernel
theorem dX5_part_29 : decode cX5_part 29 = .ok (.aload_n 0, 1) := by decide +kernel
theorem dX5_part_30 : decode cX5_part 30 = .ok (.getfield 28, 3) := by decide +kernel
theorem dX5_part_33 : decode cX5_part 33 = .ok (.invokevirtual 83, 3) := by decide +kernel
theorem dX5_part_36 : decode cX5_part 36 = .ok (.ifCond .ne 21, 3) := by decide +kernel
theorem dX5_part_39 : decode cX5_part 39 = .ok (.aload_n 0, 1) := by decide +kernel
theorem dX5_part_40 : decode cX5_part 40 = .ok (.invokevirtual 87, 3) := by decide +kernel
theorem dX5_part_43 : decode cX5_part 43 = .ok (.ifCond .ne 14, 3) := by decide +kernel
theorem dX5_part_46 : decode cX5_part 46 = .ok (.aload_n 0, 1) := by decide +kernel
theorem dX5_part_47 : decode cX5_part 47 = .ok (.getfield 28, 3) := by decide +kernel
theorem dX5_part_50 : decode cX5_part 50 = .ok (.iconst 1, 1) := by decide +kernel
theorem dX5_part_51 : decode cX5_part 51 = .ok (.invokevirtual 90, 3) := by decide +kernel
theorem dX5_part_54 : decode cX5_part 54 = .ok (.goto 111, 3) := by decide +kernel
theorem dX5_part_57 : decode cX5_part 57 = .ok (.iload_n 1, 1) := by decide +kernel
theorem dX5_part_58 : decode cX5_part 58 = .ok (.iconst 5, 1) := by decide +kernel
theorem dX5_part_59 : decode cX5_part 59 = .ok (.if_icmp .lt 14, 3) := by decide +kernel
theorem dX5_part_62 : decode cX5_part 62 = .ok (.aload_n 0, 1) := by decide +kernel
theorem dX5_part_63 : decode cX5_part 63 = .ok (.getfield 28, 3) := by decide +kernel
theorem dX5_part_66 : decode cX5_part 66 = .ok (.iconst 5, 1) := by decide +kernel
theorem dX5_part_67 : decode cX5_part 67 = .ok (.invokevirtual 90, 3) := by decide +kernel
theorem dX5_part_70 : decode cX5_part 70 = .ok (.goto 95, 3) := by decide +kernel
theorem dX5_part_73 : decode cX5_part 73 = .ok (.iload_n 2, 1) := by decide +kernel
theorem dX5_part_74 : decode cX5_part 74 = .ok (.ifCond .eq 29, 3) := by decide +kernel
theorem dX5_part_77 : decode cX5_part 77 = .ok (.aload_n 0, 1) := by decide +kernel
theorem dX5_part_78 : decode cX5_part 78 = .ok (.getfield 28, 3) := by decide +kernel
theorem dX5_part_81 : decode cX5_part 81 = .ok (.invokevirtual 62, 3) := by decide +kernel
theorem dX5_part_84 : decode cX5_part 84 = .ok (.aload_n 0, 1) := by decide +kernel
theorem dX5_part_85 : decode cX5_part 85 = .ok (.iload_n 1, 1) := by decide +kernel
theorem dX5_part_86 : decode cX5_part 86 = .ok (.iconst 1, 1) := by decide +kernel
theorem dX5_part_87 : decode cX5_part 87 = .ok (.iadd, 1) := by decide +kernel
theorem dX5_part_88 : decode cX5_part 88 = .ok (.invokevirtual 32, 3) := by decide +kernel
theorem dX5_part_91 : decode cX5_part 91 = .ok (.aload_n 0, 1) := by decide +kernel
theorem dX5_part_92 : decode cX5_part 92 = .ok (.getfield 28, 3) := by decide +kernel
theorem dX5_part_95 : decode cX5_part 95 = .ok (.bipush 41, 2) := by decide +kernel
theorem dX5_part_97 : decode cX5_part 97 = .ok (.invokevirtual 93, 3) := by decide +kernel
theorem dX5_part_100 : decode cX5_part 100 = .ok (.goto 65, 3) := by decide +kernel
theorem dX5_part_103 : decode cX5_part 103 = .ok (.iload_n 3, 1) := by decide +kernel
theorem dX5_part_104 : decode cX5_part 104 = .ok (.ifCond .eq 26, 3) := by decide +kernel
theorem dX5_part_107 : decode cX5_part 107 = .ok (.aload_n 0, 1) := by decide +kernel
theorem dX5_part_108 : decode cX5_part 108 = .ok (.getfield 28, 3) := by decide +kernel
theorem dX5_part_111 : decode cX5_part 111 = .ok (.invokevirtual 62, 3) := by decide +kernel
theorem dX5_part_114 : decode cX5_part 114 = .ok (.aload_n 0, 1) := by decide +kernel
theorem dX5_part_115 : decode cX5_part 115 = .ok (.iload_n 1, 1) := by decide +kernel
theorem dX5_part_116 : decode cX5_part 116 = .ok (.iconst 1, 1) := by decide +kernel
theorem dX5_part_117 : decode cX5_part 117 = .ok (.iadd, 1) := by decide +kernel
theorem dX5_part_118 : decode cX5_part 118 = .ok (.invokevirtual 77, 3) := by decide +kernel
theorem dX5_part_121 : decode cX5_part 121 = .ok (.aload_n 0, 1) := by decide +kernel
theorem dX5_part_122 : decode cX5_part 122 = .ok (.bipush (-4), 2) := by decide +kernel
theorem dX5_part_124 : decode cX5_part 124 = .ok (.invokevirtual 65, 3) := by decide +kernel
theorem dX5_part_127 : decode cX5_part 127 = .ok (.goto 38, 3) := by decide +kernel
theorem dX5_part_130 : decode cX5_part 130 = .ok (.aload_n 0, 1) := by decide +kernel
theorem dX5_part_131 : decode cX5_part 131 = .ok (.aload_n 0, 1) := by decide +kernel
theorem dX5_part_132 : decode cX5_part 132 = .ok (.getfield 28, 3) := by decide +kernel
theorem dX5_part_135 : decode cX5_part 135 = .ok (.invokevirtual 83, 3) := by decide +kernel
theorem dX5_part_138 : decode cX5_part 138 = .ok (.ifCond .eq 13, 3) := by decide +kernel
theorem dX5_part_141 : decode cX5_part 141 = .ok (.aload_n 0, 1) := by decide +kernel
theorem dX5_part_142 : decode cX5_part 142 = .ok (.getfield 28, 3) := by decide +kernel
theorem dX5_part_145 : decode cX5_part 145 = .ok (.invokevirtual 97, 3) := by decide +kernel
theorem dX5_part_148 : decode cX5_part 148 = .ok (.goto 7, 3) := by decide +kernel
theorem dX5_part_151 : decode cX5_part 151 = .ok (.aload_n 0, 1) := by decide +kernel
theorem dX5_part_152 : decode cX5_part 152 = .ok (.invokevirtual 101, 3) := by decide +kernel
theorem dX5_part_155 : decode cX5_part 155 = .ok (.invokevirtual 65, 3) := by decide +kernel
theorem dX5_part_158 : decode cX5_part 158 = .ok (.aload_n 0, 1) := by decide +kernel
theorem dX5_part_159 : decode cX5_part 159 = .ok (.getfield 28, 3) := by decide +kernel
theorem dX5_part_162 : decode cX5_part 162 = .ok (.invokevirtual 62, 3) := by decide +kernel
theorem dX5_part_165 : decode cX5_part 165 = .ok (.return_, 1) := by decide +kernel
set_option maxRecDepth 20000 in
theorem ggX5_isFact_X8_isAt_ : GoodIn wsX5_isFact wsX8_isAt_ := goodIn_r _ [9, 10, 11, 12, 13, 14, 19, 20, 21, 22, 23, 24, 25, 26] (by decide +kernel) (by decide +kernel)
set_option maxRecDepth 20000 in
theorem gX5_isFact_X8_isAt_ : GoodIn wsX5_isFact (wsV RX5 53 RX8 yX8_isAt_ wsX8_isAt_) := goodIn_app (goodIn_of _ (by decide +kernel)) ggX5_isFact_X8_isAt_
theorem dX5_isFact_0 : decode cX5_isFact 0 = .ok (.aload_n 0, 1) := by decide +kernel
theorem dX5_isFact_1 : decode cX5_isFact 1 = .ok (.getfield 28, 3) := by decide +kernel
theorem dX5_isFact_4 : decode cX5_isFact 4 = .ok (.getstatic 104, 3) := by decide +kernel
theorem dX5_isFact_7 : decode cX5_isFact 7 = .ok (.invokevirtual 53, 3) := by decide +kernel
theorem dX5_isFact_10 : decode cX5_isFact 10 = .ok (.ifCond .ne 30, 3) := by decide +kernel
theorem dX5_isFact_13 : decode cX5_isFact 13 = .ok (.aload_n 0, 1) := by decide +kernel
theorem dX5_isFact_14 : decode cX5_isFact 14 = .ok (.getfield 28, 3) := by decide +kernel
theorem dX5_isFact_17 : decode cX5_isFact 17 = .ok (.getstatic 107, 3) := by decide +kernel
theorem dX5_isFact_20 : decode cX5_isFact 20 = .ok (.invokevirtual 53, 3) := by decide +kernel
theorem dX5_isFact_23 : decode cX5_isFact 23 = .ok (.ifCond .ne 17, 3) := by decide +kernel
theorem dX5_isFact_26 : decode cX5_isFact 26 = .ok (.aload_n 0, 1) := by decide +kernel
theorem dX5_isFact_27 : decode cX5_isFact 27 = .ok (.getfield 28, 3) := by decide +kernel
theorem dX5_isFact_30 : decode cX5_isFact 30 = .ok (.aload_n 0, 1) := by decide +kernel
theorem dX5_isFact_31 : decode cX5_isFact 31 = .ok (.getfield 25, 3) := by decide +kernel
theorem dX5_isFact_34 : decode cX5_isFact 34 = .ok (.invokevirtual 53, 3) := by decide +kernel
theorem dX5_isFact_37 : decode cX5_isFact 37 = .ok (.ifCond .eq 7, 3) := by decide +kernel
theorem dX5_isFact_40 : decode cX5_isFact 40 = .ok (.iconst 1, 1) := by decide +kernel
theorem dX5_isFact_41 : decode cX5_isFact 41 = .ok (.goto 4, 3) := by decide +kernel
theorem dX5_isFact_44 : decode cX5_isFact 44 = .ok (.iconst 0, 1) := by decide +kernel
theorem dX5_isFact_45 : decode cX5_isFact 45 = .ok (.ireturn, 1) := by decide +kernel
set_option maxRecDepth 20000 in
theorem ggX5_factStep_X8_isAt_ : GoodIn wsX5_factStep wsX8_isAt_ := goodIn_r _ [8, 9, 10, 11, 12, 13, 18, 19, 20, 21, 22, 23, 24, 25] (by decide +kernel) (by decide +kernel)
set_option maxRecDepth 20000 in
theorem gX5_factStep_X8_isAt_ : GoodIn wsX5_factStep (wsV RX5 53 RX8 yX8_isAt_ wsX8_isAt_) := goodIn_app (goodIn_of _ (by decide +kernel)) ggX5_factStep_X8_isAt_
theorem dX5_factStep_0 : decode cX5_factStep 0 = .ok (.aload_n 0, 1) := by decide +kernel
theorem dX5_factStep_1 : decode cX5_factStep 1 = .ok (.getfield 28, 3) := by decide +kernel
theorem dX5_factStep_4 : decode cX5_factStep 4 = .ok (.getstatic 104, 3) := by decide +kernel
theorem dX5_factStep_7 : decode cX5_factStep 7 = .ok (.invokevirtual 53, 3) := by decide +kernel
theorem dX5_factStep_10 : decode cX5_factStep 10 = .ok (.ifCond .eq 5, 3) := by decide +kernel
theorem dX5_factStep_13 : decode cX5_factStep 13 = .ok (.iconst (-1), 1) := by decide +kernel
theorem dX5_factStep_14 : decode cX5_factStep 14 = .ok (.ireturn, 1) := by decide +kernel
theorem dX5_factStep_15 : decode cX5_factStep 15 = .ok (.aload_n 0, 1) := by decide +kernel
theorem dX5_factStep_16 : decode cX5_factStep 16 = .ok (.getfield 28, 3) := by decide +kernel
theorem dX5_factStep_19 : decode cX5_factStep 19 = .ok (.getstatic 107, 3) := by decide +kernel
theorem dX5_factStep_22 : decode cX5_factStep 22 = .ok (.invokevirtual 53, 3) := by decide +kernel
theorem dX5_factStep_25 : decode cX5_factStep 25 = .ok (.ifCond .eq 8, 3) := by decide +kernel
theorem dX5_factStep_28 : decode cX5_factStep 28 = .ok (.bipush (-2), 2) := by decide +kernel
theorem dX5_factStep_30 : decode cX5_factStep 30 = .ok (.goto 5, 3) := by decide +kernel
theorem dX5_factStep_33 : decode cX5_factStep 33 = .ok (.bipush (-3), 2) := by decide +kernel
theorem dX5_factStep_35 : decode cX5_factStep 35 = .ok (.ireturn, 1) := by decide +kernel
theorem dX6_init_0 : decode cX6_init 0 = .ok (.aload_n 0, 1) := by decide +kernel
theorem dX6_init_1 : decode cX6_init 1 = .ok (.invokespecial 3, 3) := by decide +kernel
theorem dX6_init_4 : decode cX6_init 4 = .ok (.aload_n 0, 1) := by decide +kernel
theorem dX6_init_5 : decode cX6_init 5 = .ok (.bipush 30, 2) := by decide +kernel
theorem dX6_init_7 : decode cX6_init 7 = .ok (.newarray .int, 2) := by decide +kernel
theorem dX6_init_9 : decode cX6_init 9 = .ok (.putfield 9, 3) := by decide +kernel
theorem dX6_init_12 : decode cX6_init 12 = .ok (.aload_n 0, 1) := by decide +kernel
theorem dX6_init_13 : decode cX6_init 13 = .ok (.bipush 30, 2) := by decide +kernel
theorem dX6_init_15 : decode cX6_init 15 = .ok (.newarray .int, 2) := by decide +kernel
theorem dX6_init_17 : decode cX6_init 17 = .ok (.putfield 15, 3) := by decide +kernel
theorem dX6_init_20 : decode cX6_init 20 = .ok (.aload_n 0, 1) := by decide +kernel
theorem dX6_init_21 : decode cX6_init 21 = .ok (.bipush 30, 2) := by decide +kernel
theorem dX6_init_23 : decode cX6_init 23 = .ok (.newarray .int, 2) := by decide +kernel
theorem dX6_init_25 : decode cX6_init 25 = .ok (.putfield 18, 3) := by decide +kernel
theorem dX6_init_28 : decode cX6_init 28 = .ok (.aload_n 0, 1) := by decide +kernel
theorem dX6_init_29 : decode cX6_init 29 = .ok (.bipush 30, 2) := by decide +kernel
theorem dX6_init_31 : decode cX6_init 31 = .ok (.newarray .int, 2) := by decide +kernel
theorem dX6_init_33 : decode cX6_init 33 = .ok (.putfield 21, 3) := by decide +kernel
theorem dX6_init_36 : decode cX6_init 36 = .ok (.aload_n 0, 1) := by decide +kernel
theorem dX6_init_37 : decode cX6_init 37 = .ok (.iconst 0, 1) := by decide +kernel
theorem dX6_init_38 : decode cX6_init 38 = .ok (.putfield 24, 3) := by decide +kernel
theorem dX6_init_41 : decode cX6_init 41 = .ok (.return_, 1) := by decide +kernel
set_option maxRecDepth 20000 in
theorem ggX6_read_X8_open : GoodIn wsX6_read wsX8_open := goodIn_r _ [6, 7, 8, 9, 10, 11, 12, 13, 5, 14, 15, 16, 17, 18, 19, 20, 21, 22, 23, 24, 25, 26, 27, 28, 29, 30, 31, 32, 33, 34, 35, 36, 37, 38, 39, 40, 41, 42, 43, 44, 45, 46, 47, 48, 49, 50, 51, 52, 53, 54, 55, 56, 57, 58, 59, 60, 61, 62, 63, 64, 65, 66, 67, 68, 69, 70, 71, 72, 73, 74, 75, 76, 77, 78, 79, 80, 81, 82, 83, 84, 85, 86, 87, 88, 89, 90, 91, 92, 93, 94, 95, 96, 97, 98, 99, 100, 101, 102, 103, 104, 105, 106, 107, 108, 109, 110, 111, 112, 113, 114, 115, 116, 117, 118, 119, 120, 121, 122, 123, 124, 125, 126, 127, 128, 129, 130, 131, 132, 133, 134, 135, 136, 137, 138, 139, 140, 141, 247, 248, 249, 250, 251, 252, 253, 254] (by decide +kernel) (by decide +kernel)
set_option maxRecDepth 20000 in
theorem gX6_read_X8_open : GoodIn wsX6_read (wsV RX6 28 RX8 yX8_open wsX8_open) := goodIn_app (goodIn_of _ (by decide +kernel)) ggX6_read_X8_open
set_option maxRecDepth 20000 in
theorem ggX6_read_X8_goesOn : GoodIn wsX6_read wsX8_goesOn := goodIn_r _ [145, 9, 42, 8, 247, 248, 249, 250, 251, 252, 253, 254] (by decide +kernel) (by decide +kernel)
set_option maxRecDepth 20000 in
theorem gX6_read_X8_goesOn : GoodIn wsX6_read (wsV RX6 33 RX8 yX8_goesOn wsX8_goesOn) := goodIn_app (goodIn_of _ (by decide +kernel)) ggX6_read_X8_goesOn
set_option maxRecDepth 20000 in
theorem ggX6_read_X6_readLine : GoodIn wsX6_read wsX6_readLine := goodIn_r _ [150, 1, 151, 152, 153, 154, 5, 155, 9, 42, 8, 44, 156, 32, 33, 29, 34, 35, 36, 37, 157, 158, 149, 159, 160, 161, 162, 163, 164, 165, 166, 167, 168, 169, 170, 171, 43, 172, 173, 174, 175, 176, 177, 178, 179, 180, 181, 182, 183, 184, 185, 186, 187, 188, 189, 190, 191, 192, 193, 194, 195, 196, 197, 198, 199, 200, 201, 202, 203, 204, 205, 206, 207, 208, 209, 210, 211, 212, 213, 214, 215, 216, 217, 218, 219, 220, 221, 222, 223, 224, 225, 226, 227, 228, 229, 230, 231, 232, 233, 234, 235, 236, 237, 242, 243, 244, 245, 246, 247, 248, 249, 250, 251, 252, 253, 254, 255, 256, 257, 258, 259, 260, 261, 262, 263, 264, 265, 266, 267] (by decide +kernel) (by decide +kernel)
set_option maxRecDepth 20000 in
theorem gX6_read_X6_readLine : GoodIn wsX6_read (wsV RX6 37 RX6 yX6_readLine wsX6_readLine) := goodIn_app (goodIn_of _ (by decide +kernel)) ggX6_read_X6_readLine
set_option maxRecDepth 20000 in
theorem ggX6_read_X8_close : GoodIn wsX6_read wsX8_close := goodIn_r _ [241, 10, 9, 247, 248, 249, 250, 251, 252, 253, 254] (by decide +kernel) (by decide +kernel)
set_option maxRecDepth 20000 in
theorem gX6_read_X8_close : GoodIn wsX6_read (wsV RX6 41 RX8 yX8_close wsX8_close) := goodIn_app (goodIn_of _ (by decide +kernel)) ggX6_read_X8_close
theorem dX6_read_0 : decode cX6_read 0 = .ok (.aload_n 0, 1) := by decide +kernel
theorem dX6_read_1 : decode cX6_read 1 = .ok (.iconst 0, 1) := by decide +kernel
theorem dX6_read_2 : decode cX6_read 2 = .ok (.putfield 24, 3) := by decide +kernel
theorem dX6_read_5 : decode cX6_read 5 = .ok (.aload_n 1, 1) := by decide +kernel
theorem dX6_read_6 : decode cX6_read 6 = .ok (.invokevirtual 28, 3) := by decide +kernel
theorem dX6_read_9 : decode cX6_read 9 = .ok (.iconst 0, 1) := by decide +kernel
theorem dX6_read_10 : decode cX6_read 10 = .ok (.istore_n 3, 1) := by decide +kernel
theorem dX6_read_11 : decode cX6_read 11 = .ok (.iload_n 3, 1) := by decide +kernel
theorem dX6_read_12 : decode cX6_read 12 = .ok (.bipush 30, 2) := by decide +kernel
theorem dX6_read_14 : decode cX6_read 14 = .ok (.if_icmp .gt 22, 3) := by decide +kernel
theorem dX6_read_17 : decode cX6_read 17 = .ok (.aload_n 1, 1) := by decide +kernel
theorem dX6_read_18 : decode cX6_read 18 = .ok (.invokevirtual 33, 3) := by decide +kernel
theorem dX6_read_21 : decode cX6_read 21 = .ok (.ifCond .eq 15, 3) := by decide +kernel
theorem dX6_read_24 : decode cX6_read 24 = .ok (.aload_n 0, 1) := by decide +kernel
theorem dX6_read_25 : decode cX6_read 25 = .ok (.aload_n 1, 1) := by decide +kernel
theorem dX6_read_26 : decode cX6_read 26 = .ok (.aload_n 2, 1) := by decide +kernel
theorem dX6_read_27 : decode cX6_read 27 = .ok (.invokevirtual 37, 3) := by decide +kernel
theorem dX6_read_30 : decode cX6_read 30 = .ok (.iinc 3 1, 3) := by decide +kernel
theorem dX6_read_33 : decode cX6_read 33 = .ok (.goto (-22), 3) := by decide +kernel
theorem dX6_read_36 : decode cX6_read 36 = .ok (.aload_n 1, 1) := by decide +kernel
theorem dX6_read_37 : decode cX6_read 37 = .ok (.invokevirtual 41, 3) := by decide +kernel
theorem dX6_read_40 : decode cX6_read 40 = .ok (.ireturn, 1) := by decide +kernel
set_option maxRecDepth 20000 in
theorem ggX6_readLine_X8_word : GoodIn wsX6_readLine wsX8_word := goodIn_r _ [7, 8, 9, 10, 11, 12, 13, 14, 15, 16, 17, 18, 19, 108, 109, 110, 111, 112, 113, 114, 115] (by decide +kernel) (by decide +kernel)
set_option maxRecDepth 20000 in
theorem gX6_readLine_X8_word : GoodIn wsX6_readLine (wsV RX6 45 RX8 yX8_word wsX8_word) := goodIn_app (goodIn_of _ (by decide +kernel)) ggX6_readLine_X8_word
set_option maxRecDepth 20000 in
theorem ggX6_readLine_X6_verbOf : GoodIn wsX6_readLine wsX6_verbOf := goodIn_r _ [23, 24, 25, 26, 27, 28, 29, 30, 31] (by decide +kernel) (by decide +kernel)
set_option maxRecDepth 20000 in
theorem gX6_readLine_X6_verbOf : GoodIn wsX6_readLine (va_wsS RX6 49 yX6_verbOf wsX6_verbOf) := goodIn_app (goodIn_of _ (by decide +kernel)) ggX6_readLine_X6_verbOf
set_option maxRecDepth 20000 in
theorem ggX6_readLine_X8_fail : GoodIn wsX6_readLine wsX8_fail := goodIn_r _ [35, 8, 36, 10, 108, 109, 110, 111, 112, 113, 114, 115] (by decide +kernel) (by decide +kernel)
set_option maxRecDepth 20000 in
theorem gX6_readLine_X8_fail : GoodIn wsX6_readLine (wsV RX6 53 RX8 yX8_fail wsX8_fail) := goodIn_app (goodIn_of _ (by decide +kernel)) ggX6_readLine_X8_fail
set_option maxRecDepth 20000 in
theorem ggX6_readLine_X8_step : GoodIn wsX6_readLine wsX8_step := goodIn_r _ [40, 8, 9, 10, 108, 109, 110, 111, 112, 113, 114, 115] (by decide +kernel) (by decide +kernel)
set_option maxRecDepth 20000 in
theorem gX6_readLine_X8_step : GoodIn wsX6_readLine (wsV RX6 57 RX8 yX8_step wsX8_step) := goodIn_app (goodIn_of _ (by decide +kernel)) ggX6_readLine_X8_step
set_option maxRecDepth 20000 in
theorem ggX6_readLine_X6_readRest : GoodIn wsX6_readLine wsX6_readRest := goodIn_r _ [44, 45, 1, 46, 47, 48, 49, 50, 6, 51, 52, 53, 54, 55, 11, 10, 56, 57, 58, 59, 8, 9, 60, 61, 62, 63, 64, 38, 39, 40, 65, 33, 34, 35, 36, 66, 67, 68, 69, 70, 71, 72, 73, 74, 75, 76, 77, 78, 79, 80, 81, 82, 83, 84, 85, 86, 87, 88, 89, 90, 91, 92, 93, 94, 37, 103, 104, 105, 106, 107, 108, 109, 110, 111, 112, 113, 114, 115, 116, 117, 118, 119, 120, 121, 122, 123, 124, 125, 126, 127, 128] (by decide +kernel) (by decide +kernel)
set_option maxRecDepth 20000 in
theorem gX6_readLine_X6_readRest : GoodIn wsX6_readLine (wsV RX6 60 RX6 yX6_readRest wsX6_readRest) := goodIn_app (goodIn_of _ (by decide +kernel)) ggX6_readLine_X6_readRest
set_option maxRecDepth 20000 in
theorem ggX6_readLine_X8_need : GoodIn wsX6_readLine wsX8_need := goodIn_r _ [98, 99, 100, 101, 6, 102, 8, 9, 10, 11, 64, 38, 39, 40, 65, 33, 34, 35, 36, 108, 109, 110, 111, 112, 113, 114, 115] (by decide +kernel) (by decide +kernel)
set_option maxRecDepth 20000 in
theorem gX6_readLine_X8_need : GoodIn wsX6_readLine (wsV RX6 64 RX8 yX8_need wsX8_need) := goodIn_app (goodIn_of _ (by decide +kernel)) ggX6_readLine_X8_need
theorem dX6_readLine_0 : decode cX6_readLine 0 = .ok (.aload_n 1, 1) := by decide +kernel
theorem dX6_readLine_1 : decode cX6_readLine 1 = .ok (.invokevirtual 45, 3) := by decide +kernel
theorem dX6_readLine_4 : decode cX6_readLine 4 = .ok (.invokestatic 49, 3) := by decide +kernel
theorem dX6_readLine_7 : decode cX6_readLine 7 = .ok (.istore_n 3, 1) := by decide +kernel
theorem dX6_readLine_8 : decode cX6_readLine 8 = .ok (.iload_n 3, 1) := by decide +kernel
theorem dX6_readLine_9 : decode cX6_readLine 9 = .ok (.iconst (-1), 1) := by decide +kernel
theorem dX6_readLine_10 : decode cX6_readLine 10 = .ok (.if_icmp .ne 11, 3) := by decide +kernel
theorem dX6_readLine_13 : decode cX6_readLine 13 = .ok (.aload_n 1, 1) := by decide +kernel
theorem dX6_readLine_14 : decode cX6_readLine 14 = .ok (.iconst 1, 1) := by decide +kernel
theorem dX6_readLine_15 : decode cX6_readLine 15 = .ok (.invokevirtual 53, 3) := by decide +kernel
theorem dX6_readLine_18 : decode cX6_readLine 18 = .ok (.goto 57, 3) := by decide +kernel
theorem dX6_readLine_21 : decode cX6_readLine 21 = .ok (.aload_n 0, 1) := by decide +kernel
theorem dX6_readLine_22 : decode cX6_readLine 22 = .ok (.getfield 24, 3) := by decide +kernel
theorem dX6_readLine_25 : decode cX6_readLine 25 = .ok (.bipush 30, 2) := by decide +kernel
theorem dX6_readLine_27 : decode cX6_readLine 27 = .ok (.if_icmp .lt 11, 3) := by decide +kernel
theorem dX6_readLine_30 : decode cX6_readLine 30 = .ok (.aload_n 1, 1) := by decide +kernel
theorem dX6_readLine_31 : decode cX6_readLine 31 = .ok (.iconst 5, 1) := by decide +kernel
theorem dX6_readLine_32 : decode cX6_readLine 32 = .ok (.invokevirtual 53, 3) := by decide +kernel
theorem dX6_readLine_35 : decode cX6_readLine 35 = .ok (.goto 40, 3) := by decide +kernel
theorem dX6_readLine_38 : decode cX6_readLine 38 = .ok (.aload_n 1, 1) := by decide +kernel
theorem dX6_readLine_39 : decode cX6_readLine 39 = .ok (.invokevirtual 57, 3) := by decide +kernel
theorem dX6_readLine_42 : decode cX6_readLine 42 = .ok (.aload_n 0, 1) := by decide +kernel
theorem dX6_readLine_43 : decode cX6_readLine 43 = .ok (.getfield 9, 3) := by decide +kernel
theorem dX6_readLine_46 : decode cX6_readLine 46 = .ok (.aload_n 0, 1) := by decide +kernel
theorem dX6_readLine_47 : decode cX6_readLine 47 = .ok (.getfield 24, 3) := by decide +kernel
theorem dX6_readLine_50 : decode cX6_readLine 50 = .ok (.iload_n 3, 1) := by decide +kernel
theorem dX6_readLine_51 : decode cX6_readLine 51 = .ok (.iastore, 1) := by decide +kernel
theorem dX6_readLine_52 : decode cX6_readLine 52 = .ok (.aload_n 0, 1) := by decide +kernel
theorem dX6_readLine_53 : decode cX6_readLine 53 = .ok (.aload_n 1, 1) := by decide +kernel
theorem dX6_readLine_54 : decode cX6_readLine 54 = .ok (.aload_n 2, 1) := by decide +kernel
theorem dX6_readLine_55 : decode cX6_readLine 55 = .ok (.iload_n 3, 1) := by decide +kernel
theorem dX6_readLine_56 : decode cX6_readLine 56 = .ok (.invokevirtual 60, 3) := by decide +kernel
theorem dX6_readLine_59 : decode cX6_readLine 59 = .ok (.aload_n 1, 1) := by decide +kernel
theorem dX6_readLine_60 : decode cX6_readLine 60 = .ok (.bipush 59, 2) := by decide +kernel
theorem dX6_readLine_62 : decode cX6_readLine 62 = .ok (.invokevirtual 64, 3) := by decide +kernel
theorem dX6_readLine_65 : decode cX6_readLine 65 = .ok (.aload_n 0, 1) := by decide +kernel
theorem dX6_readLine_66 : decode cX6_readLine 66 = .ok (.dup, 1) := by decide +kernel
theorem dX6_readLine_67 : decode cX6_readLine 67 = .ok (.getfield 24, 3) := by decide +kernel
theorem dX6_readLine_70 : decode cX6_readLine 70 = .ok (.iconst 1, 1) := by decide +kernel
theorem dX6_readLine_71 : decode cX6_readLine 71 = .ok (.iadd, 1) := by decide +kernel
theorem dX6_readLine_72 : decode cX6_readLine 72 = .ok (.putfield 24, 3) := by decide +kernel
theorem dX6_readLine_75 : decode cX6_readLine 75 = .ok (.return_, 1) := by decide +kernel
set_option maxRecDepth 20000 in
theorem ggX6_verbOf_Jx29ce0_ordinal_8abf5 : GoodIn wsX6_verbOf wsJx29ce0_ordinal_8abf5 := goodIn_r _ [7, 8] (by decide +kernel) (by decide +kernel)
set_option maxRecDepth 20000 in
theorem gX6_verbOf_Jx29ce0_ordinal_8abf5_u73X10 : GoodIn wsX6_verbOf (va_wsU RX6 73 RX10 "java/lang/Enum" ⟨"PanelCopies$Word", "ordinal", "()I"⟩ yJx29ce0_ordinal_8abf5 wsJx29ce0_ordinal_8abf5) := goodIn_app (goodIn_of _ (by decide +kernel)) ggX6_verbOf_Jx29ce0_ordinal_8abf5
theorem dX6_verbOf_0 : decode cX6_verbOf 0 = .ok (.getstatic 68, 3) := by decide +kernel
theorem dX6_verbOf_3 : decode cX6_verbOf 3 = .ok (.aload_n 0, 1) := by decide +kernel
theorem dX6_verbOf_4 : decode cX6_verbOf 4 = .ok (.invokevirtual 73, 3) := by decide +kernel
theorem dX6_verbOf_7 : decode cX6_verbOf 7 = .ok (.iaload, 1) := by decide +kernel
theorem dX6_verbOf_8 : decode cX6_verbOf 8 = .ok (.tableswitch 46 11 15 #[36, 38, 40, 42, 44], 36) := by decide +kernel
theorem dX6_verbOf_44 : decode cX6_verbOf 44 = .ok (.iconst 0, 1) := by decide +kernel
theorem dX6_verbOf_45 : decode cX6_verbOf 45 = .ok (.ireturn, 1) := by decide +kernel
theorem dX6_verbOf_46 : decode cX6_verbOf 46 = .ok (.iconst 1, 1) := by decide +kernel
theorem dX6_verbOf_47 : decode cX6_verbOf 47 = .ok (.ireturn, 1) := by decide +kernel
theorem dX6_verbOf_48 : decode cX6_verbOf 48 = .ok (.iconst 2, 1) := by decide +kernel
theorem dX6_verbOf_49 : decode cX6_verbOf 49 = .ok (.ireturn, 1) := by decide +kernel
theorem dX6_verbOf_50 : decode cX6_verbOf 50 = .ok (.iconst 3, 1) := by decide +kernel
theorem dX6_verbOf_51 : decode cX6_verbOf 51 = .ok (.ireturn, 1) := by decide +kernel
theorem dX6_verbOf_52 : decode cX6_verbOf 52 = .ok (.iconst 4, 1) := by decide +kernel
theorem dX6_verbOf_53 : decode cX6_verbOf 53 = .ok (.ireturn, 1) := by decide +kernel
theorem dX6_verbOf_54 : decode cX6_verbOf 54 = .ok (.iconst (-1), 1) := by decide +kernel
theorem dX6_verbOf_55 : decode cX6_verbOf 55 = .ok (.ireturn, 1) := by decide +kernel
set_option maxRecDepth 20000 in
theorem ggX6_readRest_X8_takeNumberBelow : GoodIn wsX6_readRest wsX8_takeNumberBelow := goodIn_r _ [9, 10, 11, 12, 8, 13, 14, 15, 16, 17, 18, 19, 20, 21, 22, 23, 24, 25, 26, 27, 28, 29, 30, 31, 32, 33, 34, 70, 71, 72, 73, 74, 75, 76, 77] (by decide +kernel) (by decide +kernel)
set_option maxRecDepth 20000 in
theorem gX6_readRest_X8_takeNumberBelow : GoodIn wsX6_readRest (wsV RX6 78 RX8 yX8_takeNumberBelow wsX8_takeNumberBelow) := goodIn_app (goodIn_of _ (by decide +kernel)) ggX6_readRest_X8_takeNumberBelow
set_option maxRecDepth 20000 in
theorem ggX6_readRest_X1_takeThief : GoodIn wsX6_readRest wsX1_takeThief := goodIn_r _ [39, 40, 41, 42, 43, 38, 44, 45, 46, 47, 8, 48, 20, 21, 15, 49, 31, 32, 33, 34, 50, 51, 52, 53, 14, 54, 55, 56, 57, 27, 28, 29, 78, 79, 80, 81, 82, 83, 84, 85, 86, 87, 88, 89, 90, 70, 71, 72, 73, 74, 75, 76, 77] (by decide +kernel) (by decide +kernel)
set_option maxRecDepth 20000 in
theorem gX6_readRest_X1_takeThief : GoodIn wsX6_readRest (wsV RX6 82 RX1 yX1_takeThief wsX1_takeThief) := goodIn_app (goodIn_of _ (by decide +kernel)) ggX6_readRest_X1_takeThief
set_option maxRecDepth 20000 in
theorem ggX6_readRest_X1_spotAt : GoodIn wsX6_readRest wsX1_spotAt := goodIn_r _ [61, 62, 63, 42, 43, 38, 44, 45, 46, 47, 8, 48, 20, 21, 15, 49, 31, 32, 33, 34, 50, 51, 52, 53, 14, 54, 55, 56, 78, 79, 80, 81, 82, 83, 84, 85, 86, 87, 88, 89, 90, 70, 71, 72, 73, 74, 75, 76, 77] (by decide +kernel) (by decide +kernel)
set_option maxRecDepth 20000 in
theorem gX6_readRest_X1_spotAt : GoodIn wsX6_readRest (wsV RX6 88 RX1 yX1_spotAt wsX1_spotAt) := goodIn_app (goodIn_of _ (by decide +kernel)) ggX6_readRest_X1_spotAt
set_option maxRecDepth 20000 in
theorem ggX6_readRest_X8_step : GoodIn wsX6_readRest wsX8_step := goodIn_r _ [29, 20, 21, 15, 70, 71, 72, 73, 74, 75, 76, 77] (by decide +kernel) (by decide +kernel)
set_option maxRecDepth 20000 in
theorem gX6_readRest_X8_step : GoodIn wsX6_readRest (wsV RX6 57 RX8 yX8_step wsX8_step) := goodIn_app (goodIn_of _ (by decide +kernel)) ggX6_readRest_X8_step
theorem dX6_readRest_0 : decode cX6_readRest 0 = .ok (.iload_n 3, 1) := by decide +kernel
theorem dX6_readRest_1 : decode cX6_readRest 1 = .ok (.iconst 3, 1) := by decide +kernel
theorem dX6_readRest_2 : decode cX6_readRest 2 = .ok (.if_icmp .ne 21, 3) := by decide +kernel
theorem dX6_readRest_5 : decode cX6_readRest 5 = .ok (.aload_n 0, 1) := by decide +kernel
theorem dX6_readRest_6 : decode cX6_readRest 6 = .ok (.getfield 18, 3) := by decide +kernel
theorem dX6_readRest_9 : decode cX6_readRest 9 = .ok (.aload_n 0, 1) := by decide +kernel
theorem dX6_readRest_10 : decode cX6_readRest 10 = .ok (.getfield 24, 3) := by decide +kernel
theorem dX6_readRest_13 : decode cX6_readRest 13 = .ok (.aload_n 1, 1) := by decide +kernel
theorem dX6_readRest_14 : decode cX6_readRest 14 = .ok (.bipush 24, 2) := by decide +kernel
theorem dX6_readRest_16 : decode cX6_readRest 16 = .ok (.invokevirtual 78, 3) := by decide +kernel
theorem dX6_readRest_19 : decode cX6_readRest 19 = .ok (.iastore, 1) := by decide +kernel
theorem dX6_readRest_20 : decode cX6_readRest 20 = .ok (.goto 37, 3) := by decide +kernel
theorem dX6_readRest_23 : decode cX6_readRest 23 = .ok (.iload_n 3, 1) := by decide +kernel
theorem dX6_readRest_24 : decode cX6_readRest 24 = .ok (.iconst 4, 1) := by decide +kernel
theorem dX6_readRest_25 : decode cX6_readRest 25 = .ok (.if_icmp .eq 32, 3) := by decide +kernel
theorem dX6_readRest_28 : decode cX6_readRest 28 = .ok (.aload_n 0, 1) := by decide +kernel
theorem dX6_readRest_29 : decode cX6_readRest 29 = .ok (.getfield 15, 3) := by decide +kernel
theorem dX6_readRest_32 : decode cX6_readRest 32 = .ok (.aload_n 0, 1) := by decide +kernel
theorem dX6_readRest_33 : decode cX6_readRest 33 = .ok (.getfield 24, 3) := by decide +kernel
theorem dX6_readRest_36 : decode cX6_readRest 36 = .ok (.aload_n 2, 1) := by decide +kernel
theorem dX6_readRest_37 : decode cX6_readRest 37 = .ok (.aload_n 1, 1) := by decide +kernel
theorem dX6_readRest_38 : decode cX6_readRest 38 = .ok (.invokevirtual 82, 3) := by decide +kernel
theorem dX6_readRest_41 : decode cX6_readRest 41 = .ok (.iastore, 1) := by decide +kernel
theorem dX6_readRest_42 : decode cX6_readRest 42 = .ok (.aload_n 0, 1) := by decide +kernel
theorem dX6_readRest_43 : decode cX6_readRest 43 = .ok (.getfield 18, 3) := by decide +kernel
theorem dX6_readRest_46 : decode cX6_readRest 46 = .ok (.aload_n 0, 1) := by decide +kernel
theorem dX6_readRest_47 : decode cX6_readRest 47 = .ok (.getfield 24, 3) := by decide +kernel
theorem dX6_readRest_50 : decode cX6_readRest 50 = .ok (.aload_n 1, 1) := by decide +kernel
theorem dX6_readRest_51 : decode cX6_readRest 51 = .ok (.bipush 8, 2) := by decide +kernel
theorem dX6_readRest_53 : decode cX6_readRest 53 = .ok (.invokevirtual 78, 3) := by decide +kernel
theorem dX6_readRest_56 : decode cX6_readRest 56 = .ok (.iastore, 1) := by decide +kernel
theorem dX6_readRest_57 : decode cX6_readRest 57 = .ok (.iload_n 3, 1) := by decide +kernel
theorem dX6_readRest_58 : decode cX6_readRest 58 = .ok (.iconst 1, 1) := by decide +kernel
theorem dX6_readRest_59 : decode cX6_readRest 59 = .ok (.if_icmp .ne 21, 3) := by decide +kernel
theorem dX6_readRest_62 : decode cX6_readRest 62 = .ok (.aload_n 0, 1) := by decide +kernel
theorem dX6_readRest_63 : decode cX6_readRest 63 = .ok (.getfield 21, 3) := by decide +kernel
theorem dX6_readRest_66 : decode cX6_readRest 66 = .ok (.aload_n 0, 1) := by decide +kernel
theorem dX6_readRest_67 : decode cX6_readRest 67 = .ok (.getfield 24, 3) := by decide +kernel
theorem dX6_readRest_70 : decode cX6_readRest 70 = .ok (.aload_n 2, 1) := by decide +kernel
theorem dX6_readRest_71 : decode cX6_readRest 71 = .ok (.aload_n 1, 1) := by decide +kernel
theorem dX6_readRest_72 : decode cX6_readRest 72 = .ok (.invokevirtual 88, 3) := by decide +kernel
theorem dX6_readRest_75 : decode cX6_readRest 75 = .ok (.iastore, 1) := by decide +kernel
theorem dX6_readRest_76 : decode cX6_readRest 76 = .ok (.aload_n 1, 1) := by decide +kernel
theorem dX6_readRest_77 : decode cX6_readRest 77 = .ok (.invokevirtual 57, 3) := by decide +kernel
theorem dX6_readRest_80 : decode cX6_readRest 80 = .ok (.return_, 1) := by decide +kernel
set_option maxRecDepth 20000 in
theorem ggX6_play_X6_playLine : GoodIn wsX6_play wsX6_playLine := goodIn_r _ [6, 7, 8, 9, 10, 11, 12, 13, 14, 15, 16, 17, 18, 19, 20, 21, 22, 23, 24, 25, 26, 27, 28, 29, 30, 31, 32, 33, 34, 35, 36, 37, 38, 39, 40, 41, 42, 43, 44, 45, 46, 47, 48, 49, 50, 51, 52, 53, 54, 55, 56, 57, 58, 59, 60, 61, 62, 63, 64, 65, 66, 67, 68, 69, 70, 71, 72, 73, 74, 75, 76, 77, 78, 79, 80, 81, 82, 83, 84, 85, 86, 87, 88, 89, 90, 91, 92, 93, 94, 95, 96, 97, 98, 99, 100, 101, 102, 103, 104, 105, 106, 107, 108, 109, 110, 111, 112, 113, 114, 115, 116, 117, 118, 119, 120, 121, 122, 123, 124, 125, 126, 127, 128, 129, 130, 131, 132, 133, 134, 135, 136, 137, 138, 139, 140, 141, 142, 143, 144, 145] (by decide +kernel) (by decide +kernel)
set_option maxRecDepth 20000 in
theorem gX6_play_X6_playLine : GoodIn wsX6_play (wsV RX6 91 RX6 yX6_playLine wsX6_playLine) := goodIn_app (goodIn_of _ (by decide +kernel)) ggX6_play_X6_playLine
theorem dX6_play_0 : decode cX6_play 0 = .ok (.iconst (-1), 1) := by decide +kernel
theorem dX6_play_1 : decode cX6_play 1 = .ok (.istore_n 3, 1) := by decide +kernel
theorem dX6_play_2 : decode cX6_play 2 = .ok (.iconst 0, 1) := by decide +kernel
theorem dX6_play_3 : decode cX6_play 3 = .ok (.istore 4, 2) := by decide +kernel
theorem dX6_play_5 : decode cX6_play 5 = .ok (.iload 4, 2) := by decide +kernel
theorem dX6_play_7 : decode cX6_play 7 = .ok (.aload_n 0, 1) := by decide +kernel
theorem dX6_play_8 : decode cX6_play 8 = .ok (.getfield 24, 3) := by decide +kernel
theorem dX6_play_11 : decode cX6_play 11 = .ok (.if_icmp .ge 35, 3) := by decide +kernel
theorem dX6_play_14 : decode cX6_play 14 = .ok (.iload 4, 2) := by decide +kernel
theorem dX6_play_16 : decode cX6_play 16 = .ok (.bipush 30, 2) := by decide +kernel
theorem dX6_play_18 : decode cX6_play 18 = .ok (.if_icmp .ge 28, 3) := by decide +kernel
theorem dX6_play_21 : decode cX6_play 21 = .ok (.aload_n 0, 1) := by decide +kernel
theorem dX6_play_22 : decode cX6_play 22 = .ok (.iload 4, 2) := by decide +kernel
theorem dX6_play_24 : decode cX6_play 24 = .ok (.aload_n 1, 1) := by decide +kernel
theorem dX6_play_25 : decode cX6_play 25 = .ok (.aload_n 2, 1) := by decide +kernel
theorem dX6_play_26 : decode cX6_play 26 = .ok (.invokevirtual 91, 3) := by decide +kernel
theorem dX6_play_29 : decode cX6_play 29 = .ok (.ifCond .ne 11, 3) := by decide +kernel
theorem dX6_play_32 : decode cX6_play 32 = .ok (.iload_n 3, 1) := by decide +kernel
theorem dX6_play_33 : decode cX6_play 33 = .ok (.iconst (-1), 1) := by decide +kernel
theorem dX6_play_34 : decode cX6_play 34 = .ok (.if_icmp .ne 6, 3) := by decide +kernel
theorem dX6_play_37 : decode cX6_play 37 = .ok (.iload 4, 2) := by decide +kernel
theorem dX6_play_39 : decode cX6_play 39 = .ok (.istore_n 3, 1) := by decide +kernel
theorem dX6_play_40 : decode cX6_play 40 = .ok (.iinc 4 1, 3) := by decide +kernel
theorem dX6_play_43 : decode cX6_play 43 = .ok (.goto (-38), 3) := by decide +kernel
theorem dX6_play_46 : decode cX6_play 46 = .ok (.iload_n 3, 1) := by decide +kernel
theorem dX6_play_47 : decode cX6_play 47 = .ok (.ireturn, 1) := by decide +kernel
set_option maxRecDepth 20000 in
theorem ggX6_playLine_X3_swap : GoodIn wsX6_playLine wsX3_swap := goodIn_r _ [9, 10, 11, 12, 13, 14, 15, 16, 8, 17, 18, 19, 20, 21, 22, 23, 24, 25, 26, 27, 28, 29, 30, 31, 32, 33, 34, 112, 113, 114, 115, 116, 117, 118, 119, 120, 121, 122, 123, 124, 125, 126, 127, 128, 129, 130, 131, 132, 133, 134, 135, 136, 137] (by decide +kernel) (by decide +kernel)
set_option maxRecDepth 20000 in
theorem gX6_playLine_X3_swap : GoodIn wsX6_playLine (wsV RX6 95 RX3 yX3_swap wsX3_swap) := goodIn_app (goodIn_of _ (by decide +kernel)) ggX6_playLine_X3_swap
set_option maxRecDepth 20000 in
theorem ggX6_playLine_X3_copyOf : GoodIn wsX6_playLine wsX3_copyOf := goodIn_r _ [38, 28, 12, 11, 39, 18, 19, 20, 21, 22, 23, 24, 25, 26, 8, 27, 40, 41, 42, 43, 44, 45, 46, 47, 48, 49, 50, 51, 52, 53, 13, 54, 55, 56, 57, 58, 59, 60, 61, 62, 63, 64, 65, 66, 67, 68, 69, 70, 71, 72, 73, 74, 75, 76, 77, 78, 79, 80, 112, 113, 114, 115, 116, 117, 118, 119, 120, 121, 122, 123, 124, 125, 126, 127, 128, 129, 130, 131, 132, 133, 134, 135, 136, 137, 138, 139] (by decide +kernel) (by decide +kernel)
set_option maxRecDepth 20000 in
theorem gX6_playLine_X3_copyOf : GoodIn wsX6_playLine (wsV RX6 101 RX3 yX3_copyOf wsX3_copyOf) := goodIn_app (goodIn_of _ (by decide +kernel)) ggX6_playLine_X3_copyOf
set_option maxRecDepth 20000 in
theorem ggX6_playLine_X3_sale : GoodIn wsX6_playLine wsX3_sale := goodIn_r _ [84, 85, 11, 14, 15, 16, 8, 17, 18, 19, 20, 21, 22, 23, 24, 25, 26, 27, 28, 86, 87, 88, 89, 90, 80, 91, 92, 93, 94, 95, 96, 97, 50, 51, 52, 53, 13, 54, 55, 56, 57, 58, 59, 60, 61, 62, 63, 64, 65, 66, 67, 68, 69, 70, 71, 72, 73, 112, 113, 114, 115, 116, 117, 118, 119, 120, 121, 122, 123, 124, 125, 126, 127, 128, 129, 130, 131, 132, 133, 134, 135, 136, 137, 138, 139] (by decide +kernel) (by decide +kernel)
set_option maxRecDepth 20000 in
theorem gX6_playLine_X3_sale : GoodIn wsX6_playLine (wsV RX6 105 RX3 yX3_sale wsX3_sale) := goodIn_app (goodIn_of _ (by decide +kernel)) ggX6_playLine_X3_sale
set_option maxRecDepth 20000 in
theorem ggX6_playLine_X3_setGuard : GoodIn wsX6_playLine wsX3_setGuard := goodIn_r _ [101, 34, 112, 113, 114, 115, 116, 117, 118, 119, 120, 121, 122, 123, 124] (by decide +kernel) (by decide +kernel)
set_option maxRecDepth 20000 in
theorem gX6_playLine_X3_setGuard : GoodIn wsX6_playLine (wsV RX6 108 RX3 yX3_setGuard wsX3_setGuard) := goodIn_app (goodIn_of _ (by decide +kernel)) ggX6_playLine_X3_setGuard
set_option maxRecDepth 20000 in
theorem ggX6_playLine_X3_passNight : GoodIn wsX6_playLine wsX3_passNight := goodIn_r _ [105, 80, 10, 34, 106, 112, 113, 114, 115, 116, 117, 118, 119, 120, 121, 122, 123, 124] (by decide +kernel) (by decide +kernel)
set_option maxRecDepth 20000 in
theorem gX6_playLine_X3_passNight : GoodIn wsX6_playLine (wsV RX6 112 RX3 yX3_passNight wsX3_passNight) := goodIn_app (goodIn_of _ (by decide +kernel)) ggX6_playLine_X3_passNight
theorem dX6_playLine_0 : decode cX6_playLine 0 = .ok (.aload_n 0, 1) := by decide +kernel
theorem dX6_playLine_1 : decode cX6_playLine 1 = .ok (.getfield 9, 3) := by decide +kernel
theorem dX6_playLine_4 : decode cX6_playLine 4 = .ok (.iload_n 1, 1) := by decide +kernel
theorem dX6_playLine_5 : decode cX6_playLine 5 = .ok (.iaload, 1) := by decide +kernel
theorem dX6_playLine_6 : decode cX6_playLine 6 = .ok (.tableswitch 128 0 3 #[30, 57, 90, 117], 30) := by decide +kernel
theorem dX6_playLine_36 : decode cX6_playLine 36 = .ok (.aload_n 2, 1) := by decide +kernel
theorem dX6_playLine_37 : decode cX6_playLine 37 = .ok (.aload_n 3, 1) := by decide +kernel
theorem dX6_playLine_38 : decode cX6_playLine 38 = .ok (.aload_n 0, 1) := by decide +kernel
theorem dX6_playLine_39 : decode cX6_playLine 39 = .ok (.getfield 15, 3) := by decide +kernel
theorem dX6_playLine_42 : decode cX6_playLine 42 = .ok (.iload_n 1, 1) := by decide +kernel
theorem dX6_playLine_43 : decode cX6_playLine 43 = .ok (.iaload, 1) := by decide +kernel
theorem dX6_playLine_44 : decode cX6_playLine 44 = .ok (.aload_n 0, 1) := by decide +kernel
theorem dX6_playLine_45 : decode cX6_playLine 45 = .ok (.getfield 18, 3) := by decide +kernel
theorem dX6_playLine_48 : decode cX6_playLine 48 = .ok (.iload_n 1, 1) := by decide +kernel
theorem dX6_playLine_49 : decode cX6_playLine 49 = .ok (.iaload, 1) := by decide +kernel
theorem dX6_playLine_50 : decode cX6_playLine 50 = .ok (.invokevirtual 95, 3) := by decide +kernel
theorem dX6_playLine_53 : decode cX6_playLine 53 = .ok (.iconst (-1), 1) := by decide +kernel
theorem dX6_playLine_54 : decode cX6_playLine 54 = .ok (.if_icmp .eq 7, 3) := by decide +kernel
theorem dX6_playLine_57 : decode cX6_playLine 57 = .ok (.iconst 1, 1) := by decide +kernel
theorem dX6_playLine_58 : decode cX6_playLine 58 = .ok (.goto 4, 3) := by decide +kernel
theorem dX6_playLine_61 : decode cX6_playLine 61 = .ok (.iconst 0, 1) := by decide +kernel
theorem dX6_playLine_62 : decode cX6_playLine 62 = .ok (.ireturn, 1) := by decide +kernel
theorem dX6_playLine_63 : decode cX6_playLine 63 = .ok (.aload_n 2, 1) := by decide +kernel
theorem dX6_playLine_64 : decode cX6_playLine 64 = .ok (.aload_n 3, 1) := by decide +kernel
theorem dX6_playLine_65 : decode cX6_playLine 65 = .ok (.aload_n 0, 1) := by decide +kernel
theorem dX6_playLine_66 : decode cX6_playLine 66 = .ok (.getfield 15, 3) := by decide +kernel
theorem dX6_playLine_69 : decode cX6_playLine 69 = .ok (.iload_n 1, 1) := by decide +kernel
theorem dX6_playLine_70 : decode cX6_playLine 70 = .ok (.iaload, 1) := by decide +kernel
theorem dX6_playLine_71 : decode cX6_playLine 71 = .ok (.aload_n 0, 1) := by decide +kernel
theorem dX6_playLine_72 : decode cX6_playLine 72 = .ok (.getfield 18, 3) := by decide +kernel
theorem dX6_playLine_75 : decode cX6_playLine 75 = .ok (.iload_n 1, 1) := by decide +kernel
theorem dX6_playLine_76 : decode cX6_playLine 76 = .ok (.iaload, 1) := by decide +kernel
theorem dX6_playLine_77 : decode cX6_playLine 77 = .ok (.aload_n 0, 1) := by decide +kernel
theorem dX6_playLine_78 : decode cX6_playLine 78 = .ok (.getfield 21, 3) := by decide +kernel
theorem dX6_playLine_81 : decode cX6_playLine 81 = .ok (.iload_n 1, 1) := by decide +kernel
theorem dX6_playLine_82 : decode cX6_playLine 82 = .ok (.iaload, 1) := by decide +kernel
theorem dX6_playLine_83 : decode cX6_playLine 83 = .ok (.invokevirtual 101, 3) := by decide +kernel
theorem dX6_playLine_86 : decode cX6_playLine 86 = .ok (.iconst (-1), 1) := by decide +kernel
theorem dX6_playLine_87 : decode cX6_playLine 87 = .ok (.if_icmp .eq 7, 3) := by decide +kernel
theorem dX6_playLine_90 : decode cX6_playLine 90 = .ok (.iconst 1, 1) := by decide +kernel
theorem dX6_playLine_91 : decode cX6_playLine 91 = .ok (.goto 4, 3) := by decide +kernel
theorem dX6_playLine_94 : decode cX6_playLine 94 = .ok (.iconst 0, 1) := by decide +kernel
theorem dX6_playLine_95 : decode cX6_playLine 95 = .ok (.ireturn, 1) := by decide +kernel
theorem dX6_playLine_96 : decode cX6_playLine 96 = .ok (.aload_n 2, 1) := by decide +kernel
theorem dX6_playLine_97 : decode cX6_playLine 97 = .ok (.aload_n 3, 1) := by decide +kernel
theorem dX6_playLine_98 : decode cX6_playLine 98 = .ok (.aload_n 0, 1) := by decide +kernel
theorem dX6_playLine_99 : decode cX6_playLine 99 = .ok (.getfield 15, 3) := by decide +kernel
theorem dX6_playLine_102 : decode cX6_playLine 102 = .ok (.iload_n 1, 1) := by decide +kernel
theorem dX6_playLine_103 : decode cX6_playLine 103 = .ok (.iaload, 1) := by decide +kernel
theorem dX6_playLine_104 : decode cX6_playLine 104 = .ok (.aload_n 0, 1) := by decide +kernel
theorem dX6_playLine_105 : decode cX6_playLine 105 = .ok (.getfield 18, 3) := by decide +kernel
theorem dX6_playLine_108 : decode cX6_playLine 108 = .ok (.iload_n 1, 1) := by decide +kernel
theorem dX6_playLine_109 : decode cX6_playLine 109 = .ok (.iaload, 1) := by decide +kernel
theorem dX6_playLine_110 : decode cX6_playLine 110 = .ok (.invokevirtual 105, 3) := by decide +kernel
theorem dX6_playLine_113 : decode cX6_playLine 113 = .ok (.iconst (-1), 1) := by decide +kernel
theorem dX6_playLine_114 : decode cX6_playLine 114 = .ok (.if_icmp .eq 7, 3) := by decide +kernel
theorem dX6_playLine_117 : decode cX6_playLine 117 = .ok (.iconst 1, 1) := by decide +kernel
theorem dX6_playLine_118 : decode cX6_playLine 118 = .ok (.goto 4, 3) := by decide +kernel
theorem dX6_playLine_121 : decode cX6_playLine 121 = .ok (.iconst 0, 1) := by decide +kernel
theorem dX6_playLine_122 : decode cX6_playLine 122 = .ok (.ireturn, 1) := by decide +kernel
theorem dX6_playLine_123 : decode cX6_playLine 123 = .ok (.aload_n 2, 1) := by decide +kernel
theorem dX6_playLine_124 : decode cX6_playLine 124 = .ok (.aload_n 0, 1) := by decide +kernel
theorem dX6_playLine_125 : decode cX6_playLine 125 = .ok (.getfield 18, 3) := by decide +kernel
theorem dX6_playLine_128 : decode cX6_playLine 128 = .ok (.iload_n 1, 1) := by decide +kernel
theorem dX6_playLine_129 : decode cX6_playLine 129 = .ok (.iaload, 1) := by decide +kernel
theorem dX6_playLine_130 : decode cX6_playLine 130 = .ok (.invokevirtual 108, 3) := by decide +kernel
theorem dX6_playLine_133 : decode cX6_playLine 133 = .ok (.ireturn, 1) := by decide +kernel
theorem dX6_playLine_134 : decode cX6_playLine 134 = .ok (.aload_n 2, 1) := by decide +kernel
theorem dX6_playLine_135 : decode cX6_playLine 135 = .ok (.invokevirtual 112, 3) := by decide +kernel
theorem dX6_playLine_138 : decode cX6_playLine 138 = .ok (.iconst 1, 1) := by decide +kernel
theorem dX6_playLine_139 : decode cX6_playLine 139 = .ok (.ireturn, 1) := by decide +kernel
theorem dX7_init_0 : decode cX7_init 0 = .ok (.aload_n 0, 1) := by decide +kernel
theorem dX7_init_1 : decode cX7_init 1 = .ok (.invokespecial 3, 3) := by decide +kernel
theorem dX7_init_4 : decode cX7_init 4 = .ok (.aload_n 0, 1) := by decide +kernel
theorem dX7_init_5 : decode cX7_init 5 = .ok (.bipush 8, 2) := by decide +kernel
theorem dX7_init_7 : decode cX7_init 7 = .ok (.newarray .int, 2) := by decide +kernel
theorem dX7_init_9 : decode cX7_init 9 = .ok (.putfield 9, 3) := by decide +kernel
theorem dX7_init_12 : decode cX7_init 12 = .ok (.aload_n 0, 1) := by decide +kernel
theorem dX7_init_13 : decode cX7_init 13 = .ok (.sipush 243, 3) := by decide +kernel
theorem dX7_init_16 : decode cX7_init 16 = .ok (.newarray .int, 2) := by decide +kernel
theorem dX7_init_18 : decode cX7_init 18 = .ok (.putfield 15, 3) := by decide +kernel
theorem dX7_init_21 : decode cX7_init 21 = .ok (.aload_n 0, 1) := by decide +kernel
theorem dX7_init_22 : decode cX7_init 22 = .ok (.iconst 1, 1) := by decide +kernel
theorem dX7_init_23 : decode cX7_init 23 = .ok (.putfield 18, 3) := by decide +kernel
theorem dX7_init_26 : decode cX7_init 26 = .ok (.return_, 1) := by decide +kernel
set_option maxRecDepth 20000 in
theorem ggX7_weigh_J6_numberOfTrailingZeros_0f7a4 : GoodIn wsX7_weigh wsJ6_numberOfTrailingZeros_0f7a4 := goodIn_r _ [9, 10] (by decide +kernel) (by decide +kernel)
set_option maxRecDepth 20000 in
theorem gX7_weigh_J6_numberOfTrailingZeros_0f7a4 : GoodIn wsX7_weigh (va_wsS RX7 28 yJ6_numberOfTrailingZeros_0f7a4 wsJ6_numberOfTrailingZeros_0f7a4) := goodIn_app (goodIn_of _ (by decide +kernel)) ggX7_weigh_J6_numberOfTrailingZeros_0f7a4
set_option maxRecDepth 20000 in
theorem ggX7_weigh_X3_hardOf : GoodIn wsX7_weigh wsX3_hardOf := goodIn_r _ [15, 16, 17, 18, 19, 14, 20, 21, 22, 23, 8, 24, 25, 26, 27, 28, 29, 30, 31, 32, 33, 34, 35, 36, 37, 38, 39, 40, 76, 77, 78, 79, 80, 81, 82, 83, 84, 85, 86, 87, 88, 60, 61, 62, 63, 64, 65, 66, 67, 68, 69, 70, 71, 72, 89, 90] (by decide +kernel) (by decide +kernel)
set_option maxRecDepth 20000 in
theorem gX7_weigh_X3_hardOf : GoodIn wsX7_weigh (wsV RX7 37 RX3 yX3_hardOf wsX3_hardOf) := goodIn_app (goodIn_of _ (by decide +kernel)) ggX7_weigh_X3_hardOf
set_option maxRecDepth 20000 in
theorem ggX7_weigh_X7_skilled : GoodIn wsX7_weigh wsX7_skilled := goodIn_r _ [44, 45, 46, 76, 77, 78, 79, 80, 81, 82, 83, 84, 85, 86, 87, 88] (by decide +kernel) (by decide +kernel)
set_option maxRecDepth 20000 in
theorem gX7_weigh_X7_skilled : GoodIn wsX7_weigh (va_wsS RX7 41 yX7_skilled wsX7_skilled) := goodIn_app (goodIn_of _ (by decide +kernel)) ggX7_weigh_X7_skilled
set_option maxRecDepth 20000 in
theorem ggX7_weigh_X7_countWays : GoodIn wsX7_weigh wsX7_countWays := goodIn_r _ [50, 51, 2, 52, 53, 43, 54, 55, 56, 57, 58, 59, 4, 73, 74, 75] (by decide +kernel) (by decide +kernel)
set_option maxRecDepth 20000 in
theorem gX7_weigh_X7_countWays : GoodIn wsX7_weigh (wsV RX7 45 RX7 yX7_countWays wsX7_countWays) := goodIn_app (goodIn_of _ (by decide +kernel)) ggX7_weigh_X7_countWays
theorem dX7_weigh_0 : decode cX7_weigh 0 = .ok (.aload_n 0, 1) := by decide +kernel
theorem dX7_weigh_1 : decode cX7_weigh 1 = .ok (.aload_n 1, 1) := by decide +kernel
theorem dX7_weigh_2 : decode cX7_weigh 2 = .ok (.getfield 22, 3) := by decide +kernel
theorem dX7_weigh_5 : decode cX7_weigh 5 = .ok (.putfield 18, 3) := by decide +kernel
theorem dX7_weigh_8 : decode cX7_weigh 8 = .ok (.iconst 1, 1) := by decide +kernel
theorem dX7_weigh_9 : decode cX7_weigh 9 = .ok (.istore_n 3, 1) := by decide +kernel
theorem dX7_weigh_10 : decode cX7_weigh 10 = .ok (.iload_n 3, 1) := by decide +kernel
theorem dX7_weigh_11 : decode cX7_weigh 11 = .ok (.aload_n 0, 1) := by decide +kernel
theorem dX7_weigh_12 : decode cX7_weigh 12 = .ok (.getfield 18, 3) := by decide +kernel
theorem dX7_weigh_15 : decode cX7_weigh 15 = .ok (.if_icmp .ge 43, 3) := by decide +kernel
theorem dX7_weigh_18 : decode cX7_weigh 18 = .ok (.aload_n 1, 1) := by decide +kernel
theorem dX7_weigh_19 : decode cX7_weigh 19 = .ok (.getfield 25, 3) := by decide +kernel
theorem dX7_weigh_22 : decode cX7_weigh 22 = .ok (.iload_n 3, 1) := by decide +kernel
theorem dX7_weigh_23 : decode cX7_weigh 23 = .ok (.iaload, 1) := by decide +kernel
theorem dX7_weigh_24 : decode cX7_weigh 24 = .ok (.invokestatic 28, 3) := by decide +kernel
theorem dX7_weigh_27 : decode cX7_weigh 27 = .ok (.istore 4, 2) := by decide +kernel
theorem dX7_weigh_29 : decode cX7_weigh 29 = .ok (.aload_n 0, 1) := by decide +kernel
theorem dX7_weigh_30 : decode cX7_weigh 30 = .ok (.getfield 9, 3) := by decide +kernel
theorem dX7_weigh_33 : decode cX7_weigh 33 = .ok (.iload_n 3, 1) := by decide +kernel
theorem dX7_weigh_34 : decode cX7_weigh 34 = .ok (.aload_n 2, 1) := by decide +kernel
theorem dX7_weigh_35 : decode cX7_weigh 35 = .ok (.aload_n 1, 1) := by decide +kernel
theorem dX7_weigh_36 : decode cX7_weigh 36 = .ok (.aload_n 2, 1) := by decide +kernel
theorem dX7_weigh_37 : decode cX7_weigh 37 = .ok (.aload_n 1, 1) := by decide +kernel
theorem dX7_weigh_38 : decode cX7_weigh 38 = .ok (.getfield 34, 3) := by decide +kernel
theorem dX7_weigh_41 : decode cX7_weigh 41 = .ok (.iload_n 3, 1) := by decide +kernel
theorem dX7_weigh_42 : decode cX7_weigh 42 = .ok (.iaload, 1) := by decide +kernel
theorem dX7_weigh_43 : decode cX7_weigh 43 = .ok (.iload 4, 2) := by decide +kernel
theorem dX7_weigh_45 : decode cX7_weigh 45 = .ok (.invokevirtual 37, 3) := by decide +kernel
theorem dX7_weigh_48 : decode cX7_weigh 48 = .ok (.invokestatic 41, 3) := by decide +kernel
theorem dX7_weigh_51 : decode cX7_weigh 51 = .ok (.iastore, 1) := by decide +kernel
theorem dX7_weigh_52 : decode cX7_weigh 52 = .ok (.iinc 3 1, 3) := by decide +kernel
theorem dX7_weigh_55 : decode cX7_weigh 55 = .ok (.goto (-45), 3) := by decide +kernel
theorem dX7_weigh_58 : decode cX7_weigh 58 = .ok (.aload_n 0, 1) := by decide +kernel
theorem dX7_weigh_59 : decode cX7_weigh 59 = .ok (.invokevirtual 45, 3) := by decide +kernel
theorem dX7_weigh_62 : decode cX7_weigh 62 = .ok (.return_, 1) := by decide +kernel
theorem dX7_skilled_0 : decode cX7_skilled 0 = .ok (.iconst 0, 1) := by decide +kernel
theorem dX7_skilled_1 : decode cX7_skilled 1 = .ok (.istore_n 2, 1) := by decide +kernel
theorem dX7_skilled_2 : decode cX7_skilled 2 = .ok (.iconst 0, 1) := by decide +kernel
theorem dX7_skilled_3 : decode cX7_skilled 3 = .ok (.istore_n 3, 1) := by decide +kernel
theorem dX7_skilled_4 : decode cX7_skilled 4 = .ok (.iload_n 3, 1) := by decide +kernel
theorem dX7_skilled_5 : decode cX7_skilled 5 = .ok (.aload_n 0, 1) := by decide +kernel
theorem dX7_skilled_6 : decode cX7_skilled 6 = .ok (.getfield 48, 3) := by decide +kernel
theorem dX7_skilled_9 : decode cX7_skilled 9 = .ok (.if_icmp .ge 25, 3) := by decide +kernel
theorem dX7_skilled_12 : decode cX7_skilled 12 = .ok (.aload_n 0, 1) := by decide +kernel
theorem dX7_skilled_13 : decode cX7_skilled 13 = .ok (.getfield 53, 3) := by decide +kernel
theorem dX7_skilled_16 : decode cX7_skilled 16 = .ok (.iload_n 3, 1) := by decide +kernel
theorem dX7_skilled_17 : decode cX7_skilled 17 = .ok (.iaload, 1) := by decide +kernel
theorem dX7_skilled_18 : decode cX7_skilled 18 = .ok (.iload_n 1, 1) := by decide +kernel
theorem dX7_skilled_19 : decode cX7_skilled 19 = .ok (.if_icmp .lt 9, 3) := by decide +kernel
theorem dX7_skilled_22 : decode cX7_skilled 22 = .ok (.iload_n 2, 1) := by decide +kernel
theorem dX7_skilled_23 : decode cX7_skilled 23 = .ok (.iconst 1, 1) := by decide +kernel
theorem dX7_skilled_24 : decode cX7_skilled 24 = .ok (.iload_n 3, 1) := by decide +kernel
theorem dX7_skilled_25 : decode cX7_skilled 25 = .ok (.ishl, 1) := by decide +kernel
theorem dX7_skilled_26 : decode cX7_skilled 26 = .ok (.ior, 1) := by decide +kernel
theorem dX7_skilled_27 : decode cX7_skilled 27 = .ok (.istore_n 2, 1) := by decide +kernel
theorem dX7_skilled_28 : decode cX7_skilled 28 = .ok (.iinc 3 1, 3) := by decide +kernel
theorem dX7_skilled_31 : decode cX7_skilled 31 = .ok (.goto (-27), 3) := by decide +kernel
theorem dX7_skilled_34 : decode cX7_skilled 34 = .ok (.iload_n 2, 1) := by decide +kernel
theorem dX7_skilled_35 : decode cX7_skilled 35 = .ok (.ireturn, 1) := by decide +kernel
set_option maxRecDepth 20000 in
theorem ggX7_countWays_X7_given : GoodIn wsX7_countWays wsX7_given := goodIn_r _ [6, 7] (by decide +kernel) (by decide +kernel)
set_option maxRecDepth 20000 in
theorem gX7_countWays_X7_given : GoodIn wsX7_countWays (va_wsS RX7 56 yX7_given wsX7_given) := goodIn_app (goodIn_of _ (by decide +kernel)) ggX7_countWays_X7_given
set_option maxRecDepth 20000 in
theorem ggX7_countWays_X7_waysWith : GoodIn wsX7_countWays wsX7_waysWith := goodIn_r _ [11, 12, 7, 1, 13, 14, 15] (by decide +kernel) (by decide +kernel)
set_option maxRecDepth 20000 in
theorem gX7_countWays_X7_waysWith : GoodIn wsX7_countWays (wsV RX7 59 RX7 yX7_waysWith wsX7_waysWith) := goodIn_app (goodIn_of _ (by decide +kernel)) ggX7_countWays_X7_waysWith
theorem dX7_countWays_0 : decode cX7_countWays 0 = .ok (.sipush 242, 3) := by decide +kernel
theorem dX7_countWays_3 : decode cX7_countWays 3 = .ok (.istore_n 1, 1) := by decide +kernel
theorem dX7_countWays_4 : decode cX7_countWays 4 = .ok (.iload_n 1, 1) := by decide +kernel
theorem dX7_countWays_5 : decode cX7_countWays 5 = .ok (.ifCond .lt 72, 3) := by decide +kernel
theorem dX7_countWays_8 : decode cX7_countWays 8 = .ok (.iconst 1, 1) := by decide +kernel
theorem dX7_countWays_9 : decode cX7_countWays 9 = .ok (.iload_n 1, 1) := by decide +kernel
theorem dX7_countWays_10 : decode cX7_countWays 10 = .ok (.invokestatic 56, 3) := by decide +kernel
theorem dX7_countWays_13 : decode cX7_countWays 13 = .ok (.iadd, 1) := by decide +kernel
theorem dX7_countWays_14 : decode cX7_countWays 14 = .ok (.istore_n 2, 1) := by decide +kernel
theorem dX7_countWays_15 : decode cX7_countWays 15 = .ok (.aload_n 0, 1) := by decide +kernel
theorem dX7_countWays_16 : decode cX7_countWays 16 = .ok (.getfield 15, 3) := by decide +kernel
theorem dX7_countWays_19 : decode cX7_countWays 19 = .ok (.iload_n 1, 1) := by decide +kernel
theorem dX7_countWays_20 : decode cX7_countWays 20 = .ok (.iload_n 2, 1) := by decide +kernel
theorem dX7_countWays_21 : decode cX7_countWays 21 = .ok (.aload_n 0, 1) := by decide +kernel
theorem dX7_countWays_22 : decode cX7_countWays 22 = .ok (.getfield 18, 3) := by decide +kernel
theorem dX7_countWays_25 : decode cX7_countWays 25 = .ok (.if_icmp .ne 7, 3) := by decide +kernel
theorem dX7_countWays_28 : decode cX7_countWays 28 = .ok (.iconst 1, 1) := by decide +kernel
theorem dX7_countWays_29 : decode cX7_countWays 29 = .ok (.goto 4, 3) := by decide +kernel
theorem dX7_countWays_32 : decode cX7_countWays 32 = .ok (.iconst 0, 1) := by decide +kernel
theorem dX7_countWays_33 : decode cX7_countWays 33 = .ok (.iastore, 1) := by decide +kernel
theorem dX7_countWays_34 : decode cX7_countWays 34 = .ok (.iconst 0, 1) := by decide +kernel
theorem dX7_countWays_35 : decode cX7_countWays 35 = .ok (.istore_n 3, 1) := by decide +kernel
theorem dX7_countWays_36 : decode cX7_countWays 36 = .ok (.iload_n 3, 1) := by decide +kernel
theorem dX7_countWays_37 : decode cX7_countWays 37 = .ok (.iconst 5, 1) := by decide +kernel
theorem dX7_countWays_38 : decode cX7_countWays 38 = .ok (.if_icmp .ge 33, 3) := by decide +kernel
theorem dX7_countWays_41 : decode cX7_countWays 41 = .ok (.iload_n 2, 1) := by decide +kernel
theorem dX7_countWays_42 : decode cX7_countWays 42 = .ok (.aload_n 0, 1) := by decide +kernel
theorem dX7_countWays_43 : decode cX7_countWays 43 = .ok (.getfield 18, 3) := by decide +kernel
theorem dX7_countWays_46 : decode cX7_countWays 46 = .ok (.if_icmp .ge 25, 3) := by decide +kernel
theorem dX7_countWays_49 : decode cX7_countWays 49 = .ok (.aload_n 0, 1) := by decide +kernel
theorem dX7_countWays_50 : decode cX7_countWays 50 = .ok (.getfield 15, 3) := by decide +kernel
theorem dX7_countWays_53 : decode cX7_countWays 53 = .ok (.iload_n 1, 1) := by decide +kernel
theorem dX7_countWays_54 : decode cX7_countWays 54 = .ok (.dup2, 1) := by decide +kernel
theorem dX7_countWays_55 : decode cX7_countWays 55 = .ok (.iaload, 1) := by decide +kernel
theorem dX7_countWays_56 : decode cX7_countWays 56 = .ok (.aload_n 0, 1) := by decide +kernel
theorem dX7_countWays_57 : decode cX7_countWays 57 = .ok (.iload_n 1, 1) := by decide +kernel
theorem dX7_countWays_58 : decode cX7_countWays 58 = .ok (.iload_n 2, 1) := by decide +kernel
theorem dX7_countWays_59 : decode cX7_countWays 59 = .ok (.iload_n 3, 1) := by decide +kernel
theorem dX7_countWays_60 : decode cX7_countWays 60 = .ok (.invokevirtual 59, 3) := by decide +kernel
theorem dX7_countWays_63 : decode cX7_countWays 63 = .ok (.iadd, 1) := by decide +kernel
theorem dX7_countWays_64 : decode cX7_countWays 64 = .ok (.iastore, 1) := by decide +kernel
theorem dX7_countWays_65 : decode cX7_countWays 65 = .ok (.iinc 3 1, 3) := by decide +kernel
theorem dX7_countWays_68 : decode cX7_countWays 68 = .ok (.goto (-32), 3) := by decide +kernel
theorem dX7_countWays_71 : decode cX7_countWays 71 = .ok (.iinc 1 (-1), 3) := by decide +kernel
theorem dX7_countWays_74 : decode cX7_countWays 74 = .ok (.goto (-70), 3) := by decide +kernel
theorem dX7_countWays_77 : decode cX7_countWays 77 = .ok (.return_, 1) := by decide +kernel
theorem dX7_given_0 : decode cX7_given 0 = .ok (.iconst 0, 1) := by decide +kernel
theorem dX7_given_1 : decode cX7_given 1 = .ok (.istore_n 1, 1) := by decide +kernel
theorem dX7_given_2 : decode cX7_given 2 = .ok (.iconst 0, 1) := by decide +kernel
theorem dX7_given_3 : decode cX7_given 3 = .ok (.istore_n 2, 1) := by decide +kernel
theorem dX7_given_4 : decode cX7_given 4 = .ok (.iload_n 2, 1) := by decide +kernel
theorem dX7_given_5 : decode cX7_given 5 = .ok (.iconst 5, 1) := by decide +kernel
theorem dX7_given_6 : decode cX7_given 6 = .ok (.if_icmp .ge 21, 3) := by decide +kernel
theorem dX7_given_9 : decode cX7_given 9 = .ok (.iload_n 1, 1) := by decide +kernel
theorem dX7_given_10 : decode cX7_given 10 = .ok (.iload_n 0, 1) := by decide +kernel
theorem dX7_given_11 : decode cX7_given 11 = .ok (.getstatic 63, 3) := by decide +kernel
theorem dX7_given_14 : decode cX7_given 14 = .ok (.iload_n 2, 1) := by decide +kernel
theorem dX7_given_15 : decode cX7_given 15 = .ok (.iaload, 1) := by decide +kernel
theorem dX7_given_16 : decode cX7_given 16 = .ok (.idiv, 1) := by decide +kernel
theorem dX7_given_17 : decode cX7_given 17 = .ok (.iconst 3, 1) := by decide +kernel
theorem dX7_given_18 : decode cX7_given 18 = .ok (.irem, 1) := by decide +kernel
theorem dX7_given_19 : decode cX7_given 19 = .ok (.iadd, 1) := by decide +kernel
theorem dX7_given_20 : decode cX7_given 20 = .ok (.istore_n 1, 1) := by decide +kernel
theorem dX7_given_21 : decode cX7_given 21 = .ok (.iinc 2 1, 3) := by decide +kernel
theorem dX7_given_24 : decode cX7_given 24 = .ok (.goto (-20), 3) := by decide +kernel
theorem dX7_given_27 : decode cX7_given 27 = .ok (.iload_n 1, 1) := by decide +kernel
theorem dX7_given_28 : decode cX7_given 28 = .ok (.ireturn, 1) := by decide +kernel
theorem dX7_waysWith_0 : decode cX7_waysWith 0 = .ok (.aload_n 0, 1) := by decide +kernel
theorem dX7_waysWith_1 : decode cX7_waysWith 1 = .ok (.getfield 9, 3) := by decide +kernel
theorem dX7_waysWith_4 : decode cX7_waysWith 4 = .ok (.iload_n 2, 1) := by decide +kernel
theorem dX7_waysWith_5 : decode cX7_waysWith 5 = .ok (.iaload, 1) := by decide +kernel
theorem dX7_waysWith_6 : decode cX7_waysWith 6 = .ok (.iload_n 3, 1) := by decide +kernel
theorem dX7_waysWith_7 : decode cX7_waysWith 7 = .ok (.ishr, 1) := by decide +kernel
theorem dX7_waysWith_8 : decode cX7_waysWith 8 = .ok (.iconst 1, 1) := by decide +kernel
theorem dX7_waysWith_9 : decode cX7_waysWith 9 = .ok (.iand, 1) := by decide +kernel
theorem dX7_waysWith_10 : decode cX7_waysWith 10 = .ok (.ifCond .eq 20, 3) := by decide +kernel
theorem dX7_waysWith_13 : decode cX7_waysWith 13 = .ok (.iload_n 1, 1) := by decide +kernel
theorem dX7_waysWith_14 : decode cX7_waysWith 14 = .ok (.getstatic 63, 3) := by decide +kernel
theorem dX7_waysWith_17 : decode cX7_waysWith 17 = .ok (.iload_n 3, 1) := by decide +kernel
theorem dX7_waysWith_18 : decode cX7_waysWith 18 = .ok (.iaload, 1) := by decide +kernel
theorem dX7_waysWith_19 : decode cX7_waysWith 19 = .ok (.idiv, 1) := by decide +kernel
theorem dX7_waysWith_20 : decode cX7_waysWith 20 = .ok (.iconst 3, 1) := by decide +kernel
theorem dX7_waysWith_21 : decode cX7_waysWith 21 = .ok (.irem, 1) := by decide +kernel
theorem dX7_waysWith_22 : decode cX7_waysWith 22 = .ok (.iconst 2, 1) := by decide +kernel
theorem dX7_waysWith_23 : decode cX7_waysWith 23 = .ok (.if_icmp .ge 7, 3) := by decide +kernel
theorem dX7_waysWith_26 : decode cX7_waysWith 26 = .ok (.iconst 1, 1) := by decide +kernel
theorem dX7_waysWith_27 : decode cX7_waysWith 27 = .ok (.goto 4, 3) := by decide +kernel
theorem dX7_waysWith_30 : decode cX7_waysWith 30 = .ok (.iconst 0, 1) := by decide +kernel
theorem dX7_waysWith_31 : decode cX7_waysWith 31 = .ok (.istore 4, 2) := by decide +kernel
theorem dX7_waysWith_33 : decode cX7_waysWith 33 = .ok (.iload 4, 2) := by decide +kernel
theorem dX7_waysWith_35 : decode cX7_waysWith 35 = .ok (.ifCond .eq 18, 3) := by decide +kernel
theorem dX7_waysWith_38 : decode cX7_waysWith 38 = .ok (.aload_n 0, 1) := by decide +kernel
theorem dX7_waysWith_39 : decode cX7_waysWith 39 = .ok (.getfield 15, 3) := by decide +kernel
theorem dX7_waysWith_42 : decode cX7_waysWith 42 = .ok (.iload_n 1, 1) := by decide +kernel
theorem dX7_waysWith_43 : decode cX7_waysWith 43 = .ok (.getstatic 63, 3) := by decide +kernel
theorem dX7_waysWith_46 : decode cX7_waysWith 46 = .ok (.iload_n 3, 1) := by decide +kernel
theorem dX7_waysWith_47 : decode cX7_waysWith 47 = .ok (.iaload, 1) := by decide +kernel
theorem dX7_waysWith_48 : decode cX7_waysWith 48 = .ok (.iadd, 1) := by decide +kernel
theorem dX7_waysWith_49 : decode cX7_waysWith 49 = .ok (.iaload, 1) := by decide +kernel
theorem dX7_waysWith_50 : decode cX7_waysWith 50 = .ok (.goto 4, 3) := by decide +kernel
theorem dX7_waysWith_53 : decode cX7_waysWith 53 = .ok (.iconst 0, 1) := by decide +kernel
theorem dX7_waysWith_54 : decode cX7_waysWith 54 = .ok (.ireturn, 1) := by decide +kernel
theorem dX7_total_0 : decode cX7_total 0 = .ok (.aload_n 0, 1) := by decide +kernel
theorem dX7_total_1 : decode cX7_total 1 = .ok (.getfield 15, 3) := by decide +kernel
theorem dX7_total_4 : decode cX7_total 4 = .ok (.iconst 0, 1) := by decide +kernel
theorem dX7_total_5 : decode cX7_total 5 = .ok (.iaload, 1) := by decide +kernel
theorem dX7_total_6 : decode cX7_total 6 = .ok (.ireturn, 1) := by decide +kernel
set_option maxRecDepth 20000 in
theorem ggX7_inFirst_X7_firstWith : GoodIn wsX7_inFirst wsX7_firstWith := goodIn_r _ [6, 7, 8, 9, 5, 10, 11, 1, 12, 13, 14, 15] (by decide +kernel) (by decide +kernel)
set_option maxRecDepth 20000 in
theorem gX7_inFirst_X7_firstWith : GoodIn wsX7_inFirst (wsV RX7 66 RX7 yX7_firstWith wsX7_firstWith) := goodIn_app (goodIn_of _ (by decide +kernel)) ggX7_inFirst_X7_firstWith
theorem dX7_inFirst_0 : decode cX7_inFirst 0 = .ok (.iconst 0, 1) := by decide +kernel
theorem dX7_inFirst_1 : decode cX7_inFirst 1 = .ok (.istore_n 2, 1) := by decide +kernel
theorem dX7_inFirst_2 : decode cX7_inFirst 2 = .ok (.iconst 1, 1) := by decide +kernel
theorem dX7_inFirst_3 : decode cX7_inFirst 3 = .ok (.istore_n 3, 1) := by decide +kernel
theorem dX7_inFirst_4 : decode cX7_inFirst 4 = .ok (.iload_n 3, 1) := by decide +kernel
theorem dX7_inFirst_5 : decode cX7_inFirst 5 = .ok (.iload_n 1, 1) := by decide +kernel
theorem dX7_inFirst_6 : decode cX7_inFirst 6 = .ok (.if_icmp .gt 40, 3) := by decide +kernel
theorem dX7_inFirst_9 : decode cX7_inFirst 9 = .ok (.aload_n 0, 1) := by decide +kernel
theorem dX7_inFirst_10 : decode cX7_inFirst 10 = .ok (.iload_n 2, 1) := by decide +kernel
theorem dX7_inFirst_11 : decode cX7_inFirst 11 = .ok (.iload_n 3, 1) := by decide +kernel
theorem dX7_inFirst_12 : decode cX7_inFirst 12 = .ok (.invokevirtual 66, 3) := by decide +kernel
theorem dX7_inFirst_15 : decode cX7_inFirst 15 = .ok (.istore 4, 2) := by decide +kernel
theorem dX7_inFirst_17 : decode cX7_inFirst 17 = .ok (.iload 4, 2) := by decide +kernel
theorem dX7_inFirst_19 : decode cX7_inFirst 19 = .ok (.iconst (-1), 1) := by decide +kernel
theorem dX7_inFirst_20 : decode cX7_inFirst 20 = .ok (.if_icmp .eq 8, 3) := by decide +kernel
theorem dX7_inFirst_23 : decode cX7_inFirst 23 = .ok (.iload_n 3, 1) := by decide +kernel
theorem dX7_inFirst_24 : decode cX7_inFirst 24 = .ok (.iload_n 1, 1) := by decide +kernel
theorem dX7_inFirst_25 : decode cX7_inFirst 25 = .ok (.if_icmp .ne 6, 3) := by decide +kernel
theorem dX7_inFirst_28 : decode cX7_inFirst 28 = .ok (.iload 4, 2) := by decide +kernel
theorem dX7_inFirst_30 : decode cX7_inFirst 30 = .ok (.ireturn, 1) := by decide +kernel
theorem dX7_inFirst_31 : decode cX7_inFirst 31 = .ok (.iload_n 2, 1) := by decide +kernel
theorem dX7_inFirst_32 : decode cX7_inFirst 32 = .ok (.getstatic 63, 3) := by decide +kernel
theorem dX7_inFirst_35 : decode cX7_inFirst 35 = .ok (.iload 4, 2) := by decide +kernel
theorem dX7_inFirst_37 : decode cX7_inFirst 37 = .ok (.iaload, 1) := by decide +kernel
theorem dX7_inFirst_38 : decode cX7_inFirst 38 = .ok (.iadd, 1) := by decide +kernel
theorem dX7_inFirst_39 : decode cX7_inFirst 39 = .ok (.istore_n 2, 1) := by decide +kernel
theorem dX7_inFirst_40 : decode cX7_inFirst 40 = .ok (.iinc 3 1, 3) := by decide +kernel
theorem dX7_inFirst_43 : decode cX7_inFirst 43 = .ok (.goto (-39), 3) := by decide +kernel
theorem dX7_inFirst_46 : decode cX7_inFirst 46 = .ok (.iconst (-1), 1) := by decide +kernel
theorem dX7_inFirst_47 : decode cX7_inFirst 47 = .ok (.ireturn, 1) := by decide +kernel
set_option maxRecDepth 20000 in
theorem ggX7_firstWith_X7_waysWith : GoodIn wsX7_firstWith wsX7_waysWith := goodIn_r _ [5, 6, 7, 8, 9, 10, 11] (by decide +kernel) (by decide +kernel)
set_option maxRecDepth 20000 in
theorem gX7_firstWith_X7_waysWith : GoodIn wsX7_firstWith (wsV RX7 59 RX7 yX7_waysWith wsX7_waysWith) := goodIn_app (goodIn_of _ (by decide +kernel)) ggX7_firstWith_X7_waysWith
theorem dX7_firstWith_0 : decode cX7_firstWith 0 = .ok (.iconst 0, 1) := by decide +kernel
theorem dX7_firstWith_1 : decode cX7_firstWith 1 = .ok (.istore_n 3, 1) := by decide +kernel
theorem dX7_firstWith_2 : decode cX7_firstWith 2 = .ok (.iload_n 3, 1) := by decide +kernel
theorem dX7_firstWith_3 : decode cX7_firstWith 3 = .ok (.iconst 5, 1) := by decide +kernel
theorem dX7_firstWith_4 : decode cX7_firstWith 4 = .ok (.if_icmp .ge 21, 3) := by decide +kernel
theorem dX7_firstWith_7 : decode cX7_firstWith 7 = .ok (.aload_n 0, 1) := by decide +kernel
theorem dX7_firstWith_8 : decode cX7_firstWith 8 = .ok (.iload_n 1, 1) := by decide +kernel
theorem dX7_firstWith_9 : decode cX7_firstWith 9 = .ok (.iload_n 2, 1) := by decide +kernel
theorem dX7_firstWith_10 : decode cX7_firstWith 10 = .ok (.iload_n 3, 1) := by decide +kernel
theorem dX7_firstWith_11 : decode cX7_firstWith 11 = .ok (.invokevirtual 59, 3) := by decide +kernel
theorem dX7_firstWith_14 : decode cX7_firstWith 14 = .ok (.ifCond .le 5, 3) := by decide +kernel
theorem dX7_firstWith_17 : decode cX7_firstWith 17 = .ok (.iload_n 3, 1) := by decide +kernel
theorem dX7_firstWith_18 : decode cX7_firstWith 18 = .ok (.ireturn, 1) := by decide +kernel
theorem dX7_firstWith_19 : decode cX7_firstWith 19 = .ok (.iinc 3 1, 3) := by decide +kernel
theorem dX7_firstWith_22 : decode cX7_firstWith 22 = .ok (.goto (-20), 3) := by decide +kernel
theorem dX7_firstWith_25 : decode cX7_firstWith 25 = .ok (.iconst (-1), 1) := by decide +kernel
theorem dX7_firstWith_26 : decode cX7_firstWith 26 = .ok (.ireturn, 1) := by decide +kernel
set_option maxRecDepth 20000 in
theorem ggX7_inAll_X7_inFirst : GoodIn wsX7_inAll wsX7_inFirst := goodIn_r _ [6, 7, 8, 9, 10, 5, 11, 12, 13, 14, 15, 1, 16, 29, 30, 31] (by decide +kernel) (by decide +kernel)
set_option maxRecDepth 20000 in
theorem gX7_inAll_X7_inFirst : GoodIn wsX7_inAll (wsV RX7 70 RX7 yX7_inFirst wsX7_inFirst) := goodIn_app (goodIn_of _ (by decide +kernel)) ggX7_inAll_X7_inFirst
set_option maxRecDepth 20000 in
theorem ggX7_inAll_X7_total : GoodIn wsX7_inAll wsX7_total := goodIn_r _ [20, 16, 29, 30, 31] (by decide +kernel) (by decide +kernel)
set_option maxRecDepth 20000 in
theorem gX7_inAll_X7_total : GoodIn wsX7_inAll (wsV RX7 73 RX7 yX7_total wsX7_total) := goodIn_app (goodIn_of _ (by decide +kernel)) ggX7_inAll_X7_total
set_option maxRecDepth 20000 in
theorem ggX7_inAll_X7_countWays : GoodIn wsX7_inAll wsX7_countWays := goodIn_r _ [24, 16, 25, 26, 27, 5, 28, 7, 12, 13, 14, 15, 1, 29, 30, 31] (by decide +kernel) (by decide +kernel)
set_option maxRecDepth 20000 in
theorem gX7_inAll_X7_countWays : GoodIn wsX7_inAll (wsV RX7 45 RX7 yX7_countWays wsX7_countWays) := goodIn_app (goodIn_of _ (by decide +kernel)) ggX7_inAll_X7_countWays
theorem dX7_inAll_0 : decode cX7_inAll 0 = .ok (.aload_n 0, 1) := by decide +kernel
theorem dX7_inAll_1 : decode cX7_inAll 1 = .ok (.iload_n 1, 1) := by decide +kernel
theorem dX7_inAll_2 : decode cX7_inAll 2 = .ok (.invokevirtual 70, 3) := by decide +kernel
theorem dX7_inAll_5 : decode cX7_inAll 5 = .ok (.istore_n 2, 1) := by decide +kernel
theorem dX7_inAll_6 : decode cX7_inAll 6 = .ok (.iload_n 2, 1) := by decide +kernel
theorem dX7_inAll_7 : decode cX7_inAll 7 = .ok (.iconst (-1), 1) := by decide +kernel
theorem dX7_inAll_8 : decode cX7_inAll 8 = .ok (.if_icmp .ne 5, 3) := by decide +kernel
theorem dX7_inAll_11 : decode cX7_inAll 11 = .ok (.iconst (-1), 1) := by decide +kernel
theorem dX7_inAll_12 : decode cX7_inAll 12 = .ok (.ireturn, 1) := by decide +kernel
theorem dX7_inAll_13 : decode cX7_inAll 13 = .ok (.aload_n 0, 1) := by decide +kernel
theorem dX7_inAll_14 : decode cX7_inAll 14 = .ok (.invokevirtual 73, 3) := by decide +kernel
theorem dX7_inAll_17 : decode cX7_inAll 17 = .ok (.istore_n 3, 1) := by decide +kernel
theorem dX7_inAll_18 : decode cX7_inAll 18 = .ok (.aload_n 0, 1) := by decide +kernel
theorem dX7_inAll_19 : decode cX7_inAll 19 = .ok (.getfield 9, 3) := by decide +kernel
theorem dX7_inAll_22 : decode cX7_inAll 22 = .ok (.iload_n 1, 1) := by decide +kernel
theorem dX7_inAll_23 : decode cX7_inAll 23 = .ok (.iconst 1, 1) := by decide +kernel
theorem dX7_inAll_24 : decode cX7_inAll 24 = .ok (.iload_n 2, 1) := by decide +kernel
theorem dX7_inAll_25 : decode cX7_inAll 25 = .ok (.ishl, 1) := by decide +kernel
theorem dX7_inAll_26 : decode cX7_inAll 26 = .ok (.iastore, 1) := by decide +kernel
theorem dX7_inAll_27 : decode cX7_inAll 27 = .ok (.aload_n 0, 1) := by decide +kernel
theorem dX7_inAll_28 : decode cX7_inAll 28 = .ok (.invokevirtual 45, 3) := by decide +kernel
theorem dX7_inAll_31 : decode cX7_inAll 31 = .ok (.aload_n 0, 1) := by decide +kernel
theorem dX7_inAll_32 : decode cX7_inAll 32 = .ok (.invokevirtual 73, 3) := by decide +kernel
theorem dX7_inAll_35 : decode cX7_inAll 35 = .ok (.iload_n 3, 1) := by decide +kernel
theorem dX7_inAll_36 : decode cX7_inAll 36 = .ok (.if_icmp .ne 7, 3) := by decide +kernel
theorem dX7_inAll_39 : decode cX7_inAll 39 = .ok (.iload_n 2, 1) := by decide +kernel
theorem dX7_inAll_40 : decode cX7_inAll 40 = .ok (.goto 4, 3) := by decide +kernel
theorem dX7_inAll_43 : decode cX7_inAll 43 = .ok (.iconst (-1), 1) := by decide +kernel
theorem dX7_inAll_44 : decode cX7_inAll 44 = .ok (.ireturn, 1) := by decide +kernel
theorem dX8_init_0 : decode cX8_init 0 = .ok (.aload_n 0, 1) := by decide +kernel
theorem dX8_init_1 : decode cX8_init 1 = .ok (.invokespecial 3, 3) := by decide +kernel
theorem dX8_init_4 : decode cX8_init 4 = .ok (.aload_n 0, 1) := by decide +kernel
theorem dX8_init_5 : decode cX8_init 5 = .ok (.sipush 1000, 3) := by decide +kernel
theorem dX8_init_8 : decode cX8_init 8 = .ok (.newarray .char, 2) := by decide +kernel
theorem dX8_init_10 : decode cX8_init 10 = .ok (.putfield 9, 3) := by decide +kernel
theorem dX8_init_13 : decode cX8_init 13 = .ok (.aload_n 0, 1) := by decide +kernel
theorem dX8_init_14 : decode cX8_init 14 = .ok (.sipush 1001, 3) := by decide +kernel
theorem dX8_init_17 : decode cX8_init 17 = .ok (.newarray .int, 2) := by decide +kernel
theorem dX8_init_19 : decode cX8_init 19 = .ok (.putfield 15, 3) := by decide +kernel
theorem dX8_init_22 : decode cX8_init 22 = .ok (.aload_n 0, 1) := by decide +kernel
theorem dX8_init_23 : decode cX8_init 23 = .ok (.sipush 1001, 3) := by decide +kernel
theorem dX8_init_26 : decode cX8_init 26 = .ok (.newarray .int, 2) := by decide +kernel
theorem dX8_init_28 : decode cX8_init 28 = .ok (.putfield 19, 3) := by decide +kernel
theorem dX8_init_31 : decode cX8_init 31 = .ok (.aload_n 0, 1) := by decide +kernel
theorem dX8_init_32 : decode cX8_init 32 = .ok (.sipush 1001, 3) := by decide +kernel
theorem dX8_init_35 : decode cX8_init 35 = .ok (.newarray .long, 2) := by decide +kernel
theorem dX8_init_37 : decode cX8_init 37 = .ok (.putfield 22, 3) := by decide +kernel
theorem dX8_init_40 : decode cX8_init 40 = .ok (.aload_n 0, 1) := by decide +kernel
theorem dX8_init_41 : decode cX8_init 41 = .ok (.iconst 0, 1) := by decide +kernel
theorem dX8_init_42 : decode cX8_init 42 = .ok (.putfield 26, 3) := by decide +kernel
theorem dX8_init_45 : decode cX8_init 45 = .ok (.aload_n 0, 1) := by decide +kernel
theorem dX8_init_46 : decode cX8_init 46 = .ok (.iconst 0, 1) := by decide +kernel
theorem dX8_init_47 : decode cX8_init 47 = .ok (.putfield 30, 3) := by decide +kernel
theorem dX8_init_50 : decode cX8_init 50 = .ok (.aload_n 0, 1) := by decide +kernel
theorem dX8_init_51 : decode cX8_init 51 = .ok (.iconst 0, 1) := by decide +kernel
theorem dX8_init_52 : decode cX8_init 52 = .ok (.putfield 33, 3) := by decide +kernel
theorem dX8_init_55 : decode cX8_init 55 = .ok (.aload_n 0, 1) := by decide +kernel
theorem dX8_init_56 : decode cX8_init 56 = .ok (.iconst 0, 1) := by decide +kernel
theorem dX8_init_57 : decode cX8_init 57 = .ok (.putfield 36, 3) := by decide +kernel
theorem dX8_init_60 : decode cX8_init 60 = .ok (.return_, 1) := by decide +kernel
theorem dX8_append_0 : decode cX8_append 0 = .ok (.bipush 56, 2) := by decide +kernel
theorem dX8_append_2 : decode cX8_append 2 = .ok (.istore_n 3, 1) := by decide +kernel
theorem dX8_append_3 : decode cX8_append 3 = .ok (.iload_n 3, 1) := by decide +kernel
theorem dX8_append_4 : decode cX8_append 4 = .ok (.ifCond .lt 86, 3) := by decide +kernel
theorem dX8_append_7 : decode cX8_append 7 = .ok (.lload_n 1, 1) := by decide +kernel
theorem dX8_append_8 : decode cX8_append 8 = .ok (.iload_n 3, 1) := by decide +kernel
theorem dX8_append_9 : decode cX8_append 9 = .ok (.lushr, 1) := by decide +kernel
theorem dX8_append_10 : decode cX8_append 10 = .ok (.ldc2_w 39, 3) := by decide +kernel
theorem dX8_append_13 : decode cX8_append 13 = .ok (.land, 1) := by decide +kernel
theorem dX8_append_14 : decode cX8_append 14 = .ok (.l2i, 1) := by decide +kernel
theorem dX8_append_15 : decode cX8_append 15 = .ok (.istore 4, 2) := by decide +kernel
theorem dX8_append_17 : decode cX8_append 17 = .ok (.iload 4, 2) := by decide +kernel
theorem dX8_append_19 : decode cX8_append 19 = .ok (.bipush 10, 2) := by decide +kernel
theorem dX8_append_21 : decode cX8_append 21 = .ok (.if_icmp .eq 17, 3) := by decide +kernel
theorem dX8_append_24 : decode cX8_append 24 = .ok (.iload 4, 2) := by decide +kernel
theorem dX8_append_26 : decode cX8_append 26 = .ok (.bipush 32, 2) := by decide +kernel
theorem dX8_append_28 : decode cX8_append 28 = .ok (.if_icmp .lt 14, 3) := by decide +kernel
theorem dX8_append_31 : decode cX8_append 31 = .ok (.iload 4, 2) := by decide +kernel
theorem dX8_append_33 : decode cX8_append 33 = .ok (.bipush 126, 2) := by decide +kernel
theorem dX8_append_35 : decode cX8_append 35 = .ok (.if_icmp .gt 7, 3) := by decide +kernel
theorem dX8_append_38 : decode cX8_append 38 = .ok (.iconst 1, 1) := by decide +kernel
theorem dX8_append_39 : decode cX8_append 39 = .ok (.goto 4, 3) := by decide +kernel
theorem dX8_append_42 : decode cX8_append 42 = .ok (.iconst 0, 1) := by decide +kernel
theorem dX8_append_43 : decode cX8_append 43 = .ok (.istore 5, 2) := by decide +kernel
theorem dX8_append_45 : decode cX8_append 45 = .ok (.iload 5, 2) := by decide +kernel
theorem dX8_append_47 : decode cX8_append 47 = .ok (.ifCond .eq 37, 3) := by decide +kernel
theorem dX8_append_50 : decode cX8_append 50 = .ok (.aload_n 0, 1) := by decide +kernel
theorem dX8_append_51 : decode cX8_append 51 = .ok (.getfield 33, 3) := by decide +kernel
theorem dX8_append_54 : decode cX8_append 54 = .ok (.aload_n 0, 1) := by decide +kernel
theorem dX8_append_55 : decode cX8_append 55 = .ok (.getfield 9, 3) := by decide +kernel
theorem dX8_append_58 : decode cX8_append 58 = .ok (.arraylength, 1) := by decide +kernel
theorem dX8_append_59 : decode cX8_append 59 = .ok (.if_icmp .ge 25, 3) := by decide +kernel
theorem dX8_append_62 : decode cX8_append 62 = .ok (.aload_n 0, 1) := by decide +kernel
theorem dX8_append_63 : decode cX8_append 63 = .ok (.getfield 9, 3) := by decide +kernel
theorem dX8_append_66 : decode cX8_append 66 = .ok (.aload_n 0, 1) := by decide +kernel
theorem dX8_append_67 : decode cX8_append 67 = .ok (.getfield 33, 3) := by decide +kernel
theorem dX8_append_70 : decode cX8_append 70 = .ok (.iload 4, 2) := by decide +kernel
theorem dX8_append_72 : decode cX8_append 72 = .ok (.i2c, 1) := by decide +kernel
theorem dX8_append_73 : decode cX8_append 73 = .ok (.castore, 1) := by decide +kernel
theorem dX8_append_74 : decode cX8_append 74 = .ok (.aload_n 0, 1) := by decide +kernel
theorem dX8_append_75 : decode cX8_append 75 = .ok (.dup, 1) := by decide +kernel
theorem dX8_append_76 : decode cX8_append 76 = .ok (.getfield 33, 3) := by decide +kernel
theorem dX8_append_79 : decode cX8_append 79 = .ok (.iconst 1, 1) := by decide +kernel
theorem dX8_append_80 : decode cX8_append 80 = .ok (.iadd, 1) := by decide +kernel
theorem dX8_append_81 : decode cX8_append 81 = .ok (.putfield 33, 3) := by decide +kernel
theorem dX8_append_84 : decode cX8_append 84 = .ok (.iinc 3 (-8), 3) := by decide +kernel
theorem dX8_append_87 : decode cX8_append 87 = .ok (.goto (-84), 3) := by decide +kernel
theorem dX8_append_90 : decode cX8_append 90 = .ok (.return_, 1) := by decide +kernel
set_option maxRecDepth 20000 in
theorem ggX8_open_X8_isBlank : GoodIn wsX8_open wsX8_isBlank := goodIn_r _ [9] (by decide +kernel) (by decide +kernel)
set_option maxRecDepth 20000 in
theorem gX8_open_X8_isBlank : GoodIn wsX8_open (va_wsS RX8 41 yX8_isBlank wsX8_isBlank) := goodIn_app (goodIn_of _ (by decide +kernel)) ggX8_open_X8_isBlank
set_option maxRecDepth 20000 in
theorem ggX8_open_X8_scan : GoodIn wsX8_open wsX8_scan := goodIn_r _ [13, 5, 14, 15, 8, 16, 17, 18, 19, 20, 4, 21, 22, 23, 24, 25, 26, 27, 28, 29, 30, 31, 32, 33, 34, 35, 36, 1, 37, 38, 39, 40, 41, 42, 43, 44, 45, 46, 47, 48, 49, 50, 51, 52, 53, 54, 55, 56, 57, 58, 59, 60, 61, 62, 63, 64, 65, 66, 67, 68, 69, 70, 71, 72, 73, 74, 75, 76, 77, 78, 79, 80, 81, 82, 83, 84, 85, 86, 87, 88, 89, 90, 91, 92, 93, 94, 95, 96, 97, 98, 99, 100, 101, 102, 103, 104, 105, 106, 107, 108, 109, 110, 111, 112, 113, 114, 115, 116, 117, 118, 119, 120, 121, 122, 123, 124, 125, 126, 127, 128, 129, 130, 131, 132, 133, 134, 135, 136, 137, 138, 139, 140, 141, 142, 143, 144] (by decide +kernel) (by decide +kernel)
set_option maxRecDepth 20000 in
theorem gX8_open_X8_scan : GoodIn wsX8_open (wsV RX8 45 RX8 yX8_scan wsX8_scan) := goodIn_app (goodIn_of _ (by decide +kernel)) ggX8_open_X8_scan
set_option maxRecDepth 20000 in
theorem ggX8_open_X8_addToken : GoodIn wsX8_open wsX8_addToken := goodIn_r _ [36, 1, 37, 38, 39, 137, 138, 139, 140, 141, 142, 143, 144] (by decide +kernel) (by decide +kernel)
set_option maxRecDepth 20000 in
theorem gX8_open_X8_addToken : GoodIn wsX8_open (wsV RX8 49 RX8 yX8_addToken wsX8_addToken) := goodIn_app (goodIn_of _ (by decide +kernel)) ggX8_open_X8_addToken
theorem dX8_open_0 : decode cX8_open 0 = .ok (.aload_n 0, 1) := by decide +kernel
theorem dX8_open_1 : decode cX8_open 1 = .ok (.iconst 0, 1) := by decide +kernel
theorem dX8_open_2 : decode cX8_open 2 = .ok (.putfield 26, 3) := by decide +kernel
theorem dX8_open_5 : decode cX8_open 5 = .ok (.aload_n 0, 1) := by decide +kernel
theorem dX8_open_6 : decode cX8_open 6 = .ok (.iconst 0, 1) := by decide +kernel
theorem dX8_open_7 : decode cX8_open 7 = .ok (.putfield 30, 3) := by decide +kernel
theorem dX8_open_10 : decode cX8_open 10 = .ok (.aload_n 0, 1) := by decide +kernel
theorem dX8_open_11 : decode cX8_open 11 = .ok (.iconst 0, 1) := by decide +kernel
theorem dX8_open_12 : decode cX8_open 12 = .ok (.putfield 36, 3) := by decide +kernel
theorem dX8_open_15 : decode cX8_open 15 = .ok (.iconst 0, 1) := by decide +kernel
theorem dX8_open_16 : decode cX8_open 16 = .ok (.istore_n 1, 1) := by decide +kernel
theorem dX8_open_17 : decode cX8_open 17 = .ok (.iconst 0, 1) := by decide +kernel
theorem dX8_open_18 : decode cX8_open 18 = .ok (.istore_n 2, 1) := by decide +kernel
theorem dX8_open_19 : decode cX8_open 19 = .ok (.iload_n 2, 1) := by decide +kernel
theorem dX8_open_20 : decode cX8_open 20 = .ok (.sipush 1000, 3) := by decide +kernel
theorem dX8_open_23 : decode cX8_open 23 = .ok (.if_icmp .ge 41, 3) := by decide +kernel
theorem dX8_open_26 : decode cX8_open 26 = .ok (.iload_n 1, 1) := by decide +kernel
theorem dX8_open_27 : decode cX8_open 27 = .ok (.aload_n 0, 1) := by decide +kernel
theorem dX8_open_28 : decode cX8_open 28 = .ok (.getfield 33, 3) := by decide +kernel
theorem dX8_open_31 : decode cX8_open 31 = .ok (.if_icmp .ge 33, 3) := by decide +kernel
theorem dX8_open_34 : decode cX8_open 34 = .ok (.aload_n 0, 1) := by decide +kernel
theorem dX8_open_35 : decode cX8_open 35 = .ok (.getfield 9, 3) := by decide +kernel
theorem dX8_open_38 : decode cX8_open 38 = .ok (.iload_n 1, 1) := by decide +kernel
theorem dX8_open_39 : decode cX8_open 39 = .ok (.caload, 1) := by decide +kernel
theorem dX8_open_40 : decode cX8_open 40 = .ok (.invokestatic 41, 3) := by decide +kernel
theorem dX8_open_43 : decode cX8_open 43 = .ok (.ifCond .eq 9, 3) := by decide +kernel
theorem dX8_open_46 : decode cX8_open 46 = .ok (.iload_n 1, 1) := by decide +kernel
theorem dX8_open_47 : decode cX8_open 47 = .ok (.iconst 1, 1) := by decide +kernel
theorem dX8_open_48 : decode cX8_open 48 = .ok (.iadd, 1) := by decide +kernel
theorem dX8_open_49 : decode cX8_open 49 = .ok (.goto 8, 3) := by decide +kernel
theorem dX8_open_52 : decode cX8_open 52 = .ok (.aload_n 0, 1) := by decide +kernel
theorem dX8_open_53 : decode cX8_open 53 = .ok (.iload_n 1, 1) := by decide +kernel
theorem dX8_open_54 : decode cX8_open 54 = .ok (.invokevirtual 45, 3) := by decide +kernel
theorem dX8_open_57 : decode cX8_open 57 = .ok (.istore_n 1, 1) := by decide +kernel
theorem dX8_open_58 : decode cX8_open 58 = .ok (.iinc 2 1, 3) := by decide +kernel
theorem dX8_open_61 : decode cX8_open 61 = .ok (.goto (-42), 3) := by decide +kernel
theorem dX8_open_64 : decode cX8_open 64 = .ok (.aload_n 0, 1) := by decide +kernel
theorem dX8_open_65 : decode cX8_open 65 = .ok (.iconst 0, 1) := by decide +kernel
theorem dX8_open_66 : decode cX8_open 66 = .ok (.aload_n 0, 1) := by decide +kernel
theorem dX8_open_67 : decode cX8_open 67 = .ok (.getfield 33, 3) := by decide +kernel
theorem dX8_open_70 : decode cX8_open 70 = .ok (.lconst 0, 1) := by decide +kernel
theorem dX8_open_71 : decode cX8_open 71 = .ok (.invokevirtual 49, 3) := by decide +kernel
theorem dX8_open_74 : decode cX8_open 74 = .ok (.return_, 1) := by decide +kernel
theorem dX8_close_0 : decode cX8_close 0 = .ok (.aload_n 0, 1) := by decide +kernel
theorem dX8_close_1 : decode cX8_close 1 = .ok (.iconst 0, 1) := by decide +kernel
theorem dX8_close_2 : decode cX8_close 2 = .ok (.putfield 33, 3) := by decide +kernel
theorem dX8_close_5 : decode cX8_close 5 = .ok (.aload_n 0, 1) := by decide +kernel
theorem dX8_close_6 : decode cX8_close 6 = .ok (.getfield 36, 3) := by decide +kernel
theorem dX8_close_9 : decode cX8_close 9 = .ok (.ireturn, 1) := by decide +kernel
theorem dX8_addToken_0 : decode cX8_addToken 0 = .ok (.aload_n 0, 1) := by decide +kernel
theorem dX8_addToken_1 : decode cX8_addToken 1 = .ok (.getfield 26, 3) := by decide +kernel
theorem dX8_addToken_4 : decode cX8_addToken 4 = .ok (.aload_n 0, 1) := by decide +kernel
theorem dX8_addToken_5 : decode cX8_addToken 5 = .ok (.getfield 15, 3) := by decide +kernel
theorem dX8_addToken_8 : decode cX8_addToken 8 = .ok (.arraylength, 1) := by decide +kernel
theorem dX8_addToken_9 : decode cX8_addToken 9 = .ok (.if_icmp .ge 43, 3) := by decide +kernel
theorem dX8_addToken_12 : decode cX8_addToken 12 = .ok (.aload_n 0, 1) := by decide +kernel
theorem dX8_addToken_13 : decode cX8_addToken 13 = .ok (.getfield 15, 3) := by decide +kernel
theorem dX8_addToken_16 : decode cX8_addToken 16 = .ok (.aload_n 0, 1) := by decide +kernel
theorem dX8_addToken_17 : decode cX8_addToken 17 = .ok (.getfield 26, 3) := by decide +kernel
theorem dX8_addToken_20 : decode cX8_addToken 20 = .ok (.iload_n 1, 1) := by decide +kernel
theorem dX8_addToken_21 : decode cX8_addToken 21 = .ok (.iastore, 1) := by decide +kernel
theorem dX8_addToken_22 : decode cX8_addToken 22 = .ok (.aload_n 0, 1) := by decide +kernel
theorem dX8_addToken_23 : decode cX8_addToken 23 = .ok (.getfield 19, 3) := by decide +kernel
theorem dX8_addToken_26 : decode cX8_addToken 26 = .ok (.aload_n 0, 1) := by decide +kernel
theorem dX8_addToken_27 : decode cX8_addToken 27 = .ok (.getfield 26, 3) := by decide +kernel
theorem dX8_addToken_30 : decode cX8_addToken 30 = .ok (.iload_n 2, 1) := by decide +kernel
theorem dX8_addToken_31 : decode cX8_addToken 31 = .ok (.iastore, 1) := by decide +kernel
theorem dX8_addToken_32 : decode cX8_addToken 32 = .ok (.aload_n 0, 1) := by decide +kernel
theorem dX8_addToken_33 : decode cX8_addToken 33 = .ok (.getfield 22, 3) := by decide +kernel
theorem dX8_addToken_36 : decode cX8_addToken 36 = .ok (.aload_n 0, 1) := by decide +kernel
theorem dX8_addToken_37 : decode cX8_addToken 37 = .ok (.getfield 26, 3) := by decide +kernel
theorem dX8_addToken_40 : decode cX8_addToken 40 = .ok (.lload_n 3, 1) := by decide +kernel
theorem dX8_addToken_41 : decode cX8_addToken 41 = .ok (.lastore, 1) := by decide +kernel
theorem dX8_addToken_42 : decode cX8_addToken 42 = .ok (.aload_n 0, 1) := by decide +kernel
theorem dX8_addToken_43 : decode cX8_addToken 43 = .ok (.dup, 1) := by decide +kernel
theorem dX8_addToken_44 : decode cX8_addToken 44 = .ok (.getfield 26, 3) := by decide +kernel
theorem dX8_addToken_47 : decode cX8_addToken 47 = .ok (.iconst 1, 1) := by decide +kernel
theorem dX8_addToken_48 : decode cX8_addToken 48 = .ok (.iadd, 1) := by decide +kernel
theorem dX8_addToken_49 : decode cX8_addToken 49 = .ok (.putfield 26, 3) := by decide +kernel
theorem dX8_addToken_52 : decode cX8_addToken 52 = .ok (.return_, 1) := by decide +kernel
set_option maxRecDepth 20000 in
theorem ggX8_scan_X8_isLetter : GoodIn wsX8_scan wsX8_isLetter := goodIn_r _ [5] (by decide +kernel) (by decide +kernel)
set_option maxRecDepth 20000 in
theorem gX8_scan_X8_isLetter : GoodIn wsX8_scan (va_wsS RX8 53 yX8_isLetter wsX8_isLetter) := goodIn_app (goodIn_of _ (by decide +kernel)) ggX8_scan_X8_isLetter
set_option maxRecDepth 20000 in
theorem ggX8_scan_X8_scanWord : GoodIn wsX8_scan wsX8_scanWord := goodIn_r _ [9, 10, 1, 11, 2, 3, 4, 5, 12, 13, 14, 15, 16, 17, 18, 19, 20, 21, 22, 23, 24, 25, 26, 27, 28, 29, 30, 128, 129, 130, 131, 132, 133, 134, 135] (by decide +kernel) (by decide +kernel)
set_option maxRecDepth 20000 in
theorem gX8_scan_X8_scanWord : GoodIn wsX8_scan (wsV RX8 56 RX8 yX8_scanWord wsX8_scanWord) := goodIn_app (goodIn_of _ (by decide +kernel)) ggX8_scan_X8_scanWord
set_option maxRecDepth 20000 in
theorem ggX8_scan_X8_isDigit : GoodIn wsX8_scan wsX8_isDigit := goodIn_r _ [33] (by decide +kernel) (by decide +kernel)
set_option maxRecDepth 20000 in
theorem gX8_scan_X8_isDigit : GoodIn wsX8_scan (va_wsS RX8 59 yX8_isDigit wsX8_isDigit) := goodIn_app (goodIn_of _ (by decide +kernel)) ggX8_scan_X8_isDigit
set_option maxRecDepth 20000 in
theorem ggX8_scan_X8_scanNumber : GoodIn wsX8_scan wsX8_scanNumber := goodIn_r _ [37, 10, 1, 38, 31, 32, 4, 33, 23, 24, 25, 26, 27, 28, 29, 30, 128, 129, 130, 131, 132, 133, 134, 135] (by decide +kernel) (by decide +kernel)
set_option maxRecDepth 20000 in
theorem gX8_scan_X8_scanNumber : GoodIn wsX8_scan (wsV RX8 62 RX8 yX8_scanNumber wsX8_scanNumber) := goodIn_app (goodIn_of _ (by decide +kernel)) ggX8_scan_X8_scanNumber
set_option maxRecDepth 20000 in
theorem ggX8_scan_J0_indexOf_0f7a4 : GoodIn wsX8_scan wsJ0_indexOf_0f7a4 := goodIn_r _ [43, 44, 45, 46, 42, 47, 48, 49, 50, 51, 52, 53, 54, 55, 56, 57, 58, 59, 60, 61, 62, 63, 64, 65, 66, 67, 68, 69, 70, 71, 72, 73, 74, 75, 76, 77, 78, 79, 80, 81, 82, 83, 84, 85, 86, 87, 88, 89, 90, 91, 92, 93, 94, 95, 96, 97, 98, 99, 100, 101, 102, 103, 104, 105, 106, 107, 108, 109, 110, 111, 112, 113, 114, 115, 116, 117, 118, 119, 120, 121, 122, 123, 124, 125, 126, 127] (by decide +kernel) (by decide +kernel)
set_option maxRecDepth 20000 in
theorem gX8_scan_J0_indexOf_0f7a4 : GoodIn wsX8_scan (wsV RX8 67 RJ0 yJ0_indexOf_0f7a4 wsJ0_indexOf_0f7a4) := goodIn_app (goodIn_of _ (by decide +kernel)) ggX8_scan_J0_indexOf_0f7a4
set_option maxRecDepth 20000 in
theorem ggX8_scan_X8_addToken : GoodIn wsX8_scan wsX8_addToken := goodIn_r _ [26, 27, 28, 29, 30, 128, 129, 130, 131, 132, 133, 134, 135] (by decide +kernel) (by decide +kernel)
set_option maxRecDepth 20000 in
theorem gX8_scan_X8_addToken : GoodIn wsX8_scan (wsV RX8 49 RX8 yX8_addToken wsX8_addToken) := goodIn_app (goodIn_of _ (by decide +kernel)) ggX8_scan_X8_addToken
theorem dX8_scan_0 : decode cX8_scan 0 = .ok (.aload_n 0, 1) := by decide +kernel
theorem dX8_scan_1 : decode cX8_scan 1 = .ok (.getfield 9, 3) := by decide +kernel
theorem dX8_scan_4 : decode cX8_scan 4 = .ok (.iload_n 1, 1) := by decide +kernel
theorem dX8_scan_5 : decode cX8_scan 5 = .ok (.caload, 1) := by decide +kernel
theorem dX8_scan_6 : decode cX8_scan 6 = .ok (.istore_n 2, 1) := by decide +kernel
theorem dX8_scan_7 : decode cX8_scan 7 = .ok (.iload_n 2, 1) := by decide +kernel
theorem dX8_scan_8 : decode cX8_scan 8 = .ok (.invokestatic 53, 3) := by decide +kernel
theorem dX8_scan_11 : decode cX8_scan 11 = .ok (.ifCond .eq 9, 3) := by decide +kernel
theorem dX8_scan_14 : decode cX8_scan 14 = .ok (.aload_n 0, 1) := by decide +kernel
theorem dX8_scan_15 : decode cX8_scan 15 = .ok (.iload_n 1, 1) := by decide +kernel
theorem dX8_scan_16 : decode cX8_scan 16 = .ok (.invokevirtual 56, 3) := by decide +kernel
theorem dX8_scan_19 : decode cX8_scan 19 = .ok (.ireturn, 1) := by decide +kernel
theorem dX8_scan_20 : decode cX8_scan 20 = .ok (.iload_n 2, 1) := by decide +kernel
theorem dX8_scan_21 : decode cX8_scan 21 = .ok (.invokestatic 59, 3) := by decide +kernel
theorem dX8_scan_24 : decode cX8_scan 24 = .ok (.ifCond .eq 9, 3) := by decide +kernel
theorem dX8_scan_27 : decode cX8_scan 27 = .ok (.aload_n 0, 1) := by decide +kernel
theorem dX8_scan_28 : decode cX8_scan 28 = .ok (.iload_n 1, 1) := by decide +kernel
theorem dX8_scan_29 : decode cX8_scan 29 = .ok (.invokevirtual 62, 3) := by decide +kernel
theorem dX8_scan_32 : decode cX8_scan 32 = .ok (.ireturn, 1) := by decide +kernel
theorem dX8_scan_33 : decode cX8_scan 33 = .ok (.aload_n 0, 1) := by decide +kernel
theorem dX8_scan_34 : decode cX8_scan 34 = .ok (.ldc 65, 2) := by decide +kernel
theorem dX8_scan_36 : decode cX8_scan 36 = .ok (.iload_n 2, 1) := by decide +kernel
theorem dX8_scan_37 : decode cX8_scan 37 = .ok (.invokevirtual 67, 3) := by decide +kernel
theorem dX8_scan_40 : decode cX8_scan 40 = .ok (.ifCond .lt 7, 3) := by decide +kernel
theorem dX8_scan_43 : decode cX8_scan 43 = .ok (.iconst 5, 1) := by decide +kernel
theorem dX8_scan_44 : decode cX8_scan 44 = .ok (.goto 4, 3) := by decide +kernel
theorem dX8_scan_47 : decode cX8_scan 47 = .ok (.iconst 1, 1) := by decide +kernel
theorem dX8_scan_48 : decode cX8_scan 48 = .ok (.iload_n 1, 1) := by decide +kernel
theorem dX8_scan_49 : decode cX8_scan 49 = .ok (.iload_n 2, 1) := by decide +kernel
theorem dX8_scan_50 : decode cX8_scan 50 = .ok (.i2l, 1) := by decide +kernel
theorem dX8_scan_51 : decode cX8_scan 51 = .ok (.invokevirtual 49, 3) := by decide +kernel
theorem dX8_scan_54 : decode cX8_scan 54 = .ok (.iload_n 1, 1) := by decide +kernel
theorem dX8_scan_55 : decode cX8_scan 55 = .ok (.iconst 1, 1) := by decide +kernel
theorem dX8_scan_56 : decode cX8_scan 56 = .ok (.iadd, 1) := by decide +kernel
theorem dX8_scan_57 : decode cX8_scan 57 = .ok (.ireturn, 1) := by decide +kernel
set_option maxRecDepth 20000 in
theorem ggX8_scanWord_X8_isLetter : GoodIn wsX8_scanWord wsX8_isLetter := goodIn_r _ [7] (by decide +kernel) (by decide +kernel)
set_option maxRecDepth 20000 in
theorem gX8_scanWord_X8_isLetter : GoodIn wsX8_scanWord (va_wsS RX8 53 yX8_isLetter wsX8_isLetter) := goodIn_app (goodIn_of _ (by decide +kernel)) ggX8_scanWord_X8_isLetter
set_option maxRecDepth 20000 in
theorem ggX8_scanWord_X10_packedWith : GoodIn wsX8_scanWord wsX10_packedWith := goodIn_r _ [11, 12] (by decide +kernel) (by decide +kernel)
set_option maxRecDepth 20000 in
theorem gX8_scanWord_X10_packedWith : GoodIn wsX8_scanWord (va_wsS RX8 72 yX10_packedWith wsX10_packedWith) := goodIn_app (goodIn_of _ (by decide +kernel)) ggX8_scanWord_X10_packedWith
set_option maxRecDepth 20000 in
theorem ggX8_scanWord_X10_of : GoodIn wsX8_scanWord wsX10_of := goodIn_r _ [15, 16, 17, 18] (by decide +kernel) (by decide +kernel)
set_option maxRecDepth 20000 in
theorem gX8_scanWord_X10_of : GoodIn wsX8_scanWord (va_wsS RX8 78 yX10_of wsX10_of) := goodIn_app (goodIn_of _ (by decide +kernel)) ggX8_scanWord_X10_of
set_option maxRecDepth 20000 in
theorem ggX8_scanWord_X8_addToken : GoodIn wsX8_scanWord wsX8_addToken := goodIn_r _ [22, 23, 24, 25, 26, 27, 28, 29, 30, 31, 32, 33, 34] (by decide +kernel) (by decide +kernel)
set_option maxRecDepth 20000 in
theorem gX8_scanWord_X8_addToken : GoodIn wsX8_scanWord (wsV RX8 49 RX8 yX8_addToken wsX8_addToken) := goodIn_app (goodIn_of _ (by decide +kernel)) ggX8_scanWord_X8_addToken
theorem dX8_scanWord_0 : decode cX8_scanWord 0 = .ok (.lconst 0, 1) := by decide +kernel
theorem dX8_scanWord_1 : decode cX8_scanWord 1 = .ok (.lstore_n 2, 1) := by decide +kernel
theorem dX8_scanWord_2 : decode cX8_scanWord 2 = .ok (.iload_n 1, 1) := by decide +kernel
theorem dX8_scanWord_3 : decode cX8_scanWord 3 = .ok (.istore 4, 2) := by decide +kernel
theorem dX8_scanWord_5 : decode cX8_scanWord 5 = .ok (.iload 4, 2) := by decide +kernel
theorem dX8_scanWord_7 : decode cX8_scanWord 7 = .ok (.aload_n 0, 1) := by decide +kernel
theorem dX8_scanWord_8 : decode cX8_scanWord 8 = .ok (.getfield 33, 3) := by decide +kernel
theorem dX8_scanWord_11 : decode cX8_scanWord 11 = .ok (.if_icmp .ge 34, 3) := by decide +kernel
theorem dX8_scanWord_14 : decode cX8_scanWord 14 = .ok (.aload_n 0, 1) := by decide +kernel
theorem dX8_scanWord_15 : decode cX8_scanWord 15 = .ok (.getfield 9, 3) := by decide +kernel
theorem dX8_scanWord_18 : decode cX8_scanWord 18 = .ok (.iload 4, 2) := by decide +kernel
theorem dX8_scanWord_20 : decode cX8_scanWord 20 = .ok (.caload, 1) := by decide +kernel
theorem dX8_scanWord_21 : decode cX8_scanWord 21 = .ok (.invokestatic 53, 3) := by decide +kernel
theorem dX8_scanWord_24 : decode cX8_scanWord 24 = .ok (.ifCond .eq 21, 3) := by decide +kernel
theorem dX8_scanWord_27 : decode cX8_scanWord 27 = .ok (.lload_n 2, 1) := by decide +kernel
theorem dX8_scanWord_28 : decode cX8_scanWord 28 = .ok (.aload_n 0, 1) := by decide +kernel
theorem dX8_scanWord_29 : decode cX8_scanWord 29 = .ok (.getfield 9, 3) := by decide +kernel
theorem dX8_scanWord_32 : decode cX8_scanWord 32 = .ok (.iload 4, 2) := by decide +kernel
theorem dX8_scanWord_34 : decode cX8_scanWord 34 = .ok (.caload, 1) := by decide +kernel
theorem dX8_scanWord_35 : decode cX8_scanWord 35 = .ok (.invokestatic 72, 3) := by decide +kernel
theorem dX8_scanWord_38 : decode cX8_scanWord 38 = .ok (.lstore_n 2, 1) := by decide +kernel
theorem dX8_scanWord_39 : decode cX8_scanWord 39 = .ok (.iinc 4 1, 3) := by decide +kernel
theorem dX8_scanWord_42 : decode cX8_scanWord 42 = .ok (.goto (-37), 3) := by decide +kernel
theorem dX8_scanWord_45 : decode cX8_scanWord 45 = .ok (.lload_n 2, 1) := by decide +kernel
theorem dX8_scanWord_46 : decode cX8_scanWord 46 = .ok (.invokestatic 78, 3) := by decide +kernel
theorem dX8_scanWord_49 : decode cX8_scanWord 49 = .ok (.getfield 82, 3) := by decide +kernel
theorem dX8_scanWord_52 : decode cX8_scanWord 52 = .ok (.ifCond .eq 7, 3) := by decide +kernel
theorem dX8_scanWord_55 : decode cX8_scanWord 55 = .ok (.iconst 3, 1) := by decide +kernel
theorem dX8_scanWord_56 : decode cX8_scanWord 56 = .ok (.goto 4, 3) := by decide +kernel
theorem dX8_scanWord_59 : decode cX8_scanWord 59 = .ok (.iconst 2, 1) := by decide +kernel
theorem dX8_scanWord_60 : decode cX8_scanWord 60 = .ok (.istore 5, 2) := by decide +kernel
theorem dX8_scanWord_62 : decode cX8_scanWord 62 = .ok (.aload_n 0, 1) := by decide +kernel
theorem dX8_scanWord_63 : decode cX8_scanWord 63 = .ok (.iload 4, 2) := by decide +kernel
theorem dX8_scanWord_65 : decode cX8_scanWord 65 = .ok (.iload_n 1, 1) := by decide +kernel
theorem dX8_scanWord_66 : decode cX8_scanWord 66 = .ok (.isub, 1) := by decide +kernel
theorem dX8_scanWord_67 : decode cX8_scanWord 67 = .ok (.bipush 8, 2) := by decide +kernel
theorem dX8_scanWord_69 : decode cX8_scanWord 69 = .ok (.if_icmp .gt 8, 3) := by decide +kernel
theorem dX8_scanWord_72 : decode cX8_scanWord 72 = .ok (.iload 5, 2) := by decide +kernel
theorem dX8_scanWord_74 : decode cX8_scanWord 74 = .ok (.goto 4, 3) := by decide +kernel
theorem dX8_scanWord_77 : decode cX8_scanWord 77 = .ok (.iconst 1, 1) := by decide +kernel
theorem dX8_scanWord_78 : decode cX8_scanWord 78 = .ok (.iload_n 1, 1) := by decide +kernel
theorem dX8_scanWord_79 : decode cX8_scanWord 79 = .ok (.lload_n 2, 1) := by decide +kernel
theorem dX8_scanWord_80 : decode cX8_scanWord 80 = .ok (.invokevirtual 49, 3) := by decide +kernel
theorem dX8_scanWord_83 : decode cX8_scanWord 83 = .ok (.iload 4, 2) := by decide +kernel
theorem dX8_scanWord_85 : decode cX8_scanWord 85 = .ok (.ireturn, 1) := by decide +kernel
set_option maxRecDepth 20000 in
theorem ggX8_scanNumber_X8_isDigit : GoodIn wsX8_scanNumber wsX8_isDigit := goodIn_r _ [7] (by decide +kernel) (by decide +kernel)
set_option maxRecDepth 20000 in
theorem gX8_scanNumber_X8_isDigit : GoodIn wsX8_scanNumber (va_wsS RX8 59 yX8_isDigit wsX8_isDigit) := goodIn_app (goodIn_of _ (by decide +kernel)) ggX8_scanNumber_X8_isDigit
set_option maxRecDepth 20000 in
theorem ggX8_scanNumber_X8_addToken : GoodIn wsX8_scanNumber wsX8_addToken := goodIn_r _ [11, 12, 13, 14, 15, 16, 17, 18, 19, 20, 21, 22, 23] (by decide +kernel) (by decide +kernel)
set_option maxRecDepth 20000 in
theorem gX8_scanNumber_X8_addToken : GoodIn wsX8_scanNumber (wsV RX8 49 RX8 yX8_addToken wsX8_addToken) := goodIn_app (goodIn_of _ (by decide +kernel)) ggX8_scanNumber_X8_addToken
theorem dX8_scanNumber_0 : decode cX8_scanNumber 0 = .ok (.lconst 0, 1) := by decide +kernel
theorem dX8_scanNumber_1 : decode cX8_scanNumber 1 = .ok (.lstore_n 2, 1) := by decide +kernel
theorem dX8_scanNumber_2 : decode cX8_scanNumber 2 = .ok (.iload_n 1, 1) := by decide +kernel
theorem dX8_scanNumber_3 : decode cX8_scanNumber 3 = .ok (.istore 4, 2) := by decide +kernel
theorem dX8_scanNumber_5 : decode cX8_scanNumber 5 = .ok (.iload 4, 2) := by decide +kernel
theorem dX8_scanNumber_7 : decode cX8_scanNumber 7 = .ok (.aload_n 0, 1) := by decide +kernel
theorem dX8_scanNumber_8 : decode cX8_scanNumber 8 = .ok (.getfield 33, 3) := by decide +kernel
theorem dX8_scanNumber_11 : decode cX8_scanNumber 11 = .ok (.if_icmp .ge 40, 3) := by decide +kernel
theorem dX8_scanNumber_14 : decode cX8_scanNumber 14 = .ok (.aload_n 0, 1) := by decide +kernel
theorem dX8_scanNumber_15 : decode cX8_scanNumber 15 = .ok (.getfield 9, 3) := by decide +kernel
