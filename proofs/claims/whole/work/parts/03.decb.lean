theorem dX9_join_25 : decode cX9_join 25 = .ok (.invokevirtual 40, 3) := by decide +kernel
theorem dX9_join_28 : decode cX9_join 28 = .ok (.return_, 1) := by decide +kernel
theorem dX9_join_29 : decode cX9_join 29 = .ok (.iconst 0, 1) := by decide +kernel
theorem dX9_join_30 : decode cX9_join 30 = .ok (.istore 4, 2) := by decide +kernel
theorem dX9_join_32 : decode cX9_join 32 = .ok (.iload 4, 2) := by decide +kernel
theorem dX9_join_34 : decode cX9_join 34 = .ok (.aload_n 0, 1) := by decide +kernel
theorem dX9_join_35 : decode cX9_join 35 = .ok (.getfield 21, 3) := by decide +kernel
theorem dX9_join_38 : decode cX9_join 38 = .ok (.if_icmp .ge 54, 3) := by decide +kernel
theorem dX9_join_41 : decode cX9_join 41 = .ok (.aload_n 0, 1) := by decide +kernel
theorem dX9_join_42 : decode cX9_join 42 = .ok (.iload 4, 2) := by decide +kernel
theorem dX9_join_44 : decode cX9_join 44 = .ok (.iload_n 2, 1) := by decide +kernel
theorem dX9_join_45 : decode cX9_join 45 = .ok (.invokevirtual 44, 3) := by decide +kernel
theorem dX9_join_48 : decode cX9_join 48 = .ok (.ifCond .ne 38, 3) := by decide +kernel
theorem dX9_join_51 : decode cX9_join 51 = .ok (.aload_n 0, 1) := by decide +kernel
theorem dX9_join_52 : decode cX9_join 52 = .ok (.getfield 15, 3) := by decide +kernel
theorem dX9_join_55 : decode cX9_join 55 = .ok (.iload_n 2, 1) := by decide +kernel
theorem dX9_join_56 : decode cX9_join 56 = .ok (.iload 4, 2) := by decide +kernel
theorem dX9_join_58 : decode cX9_join 58 = .ok (.iastore, 1) := by decide +kernel
theorem dX9_join_59 : decode cX9_join 59 = .ok (.aload_n 0, 1) := by decide +kernel
theorem dX9_join_60 : decode cX9_join 60 = .ok (.aload_n 1, 1) := by decide +kernel
theorem dX9_join_61 : decode cX9_join 61 = .ok (.iload_n 2, 1) := by decide +kernel
theorem dX9_join_62 : decode cX9_join 62 = .ok (.iconst 1, 1) := by decide +kernel
theorem dX9_join_63 : decode cX9_join 63 = .ok (.iadd, 1) := by decide +kernel
theorem dX9_join_64 : decode cX9_join 64 = .ok (.iload_n 3, 1) := by decide +kernel
theorem dX9_join_65 : decode cX9_join 65 = .ok (.aload_n 1, 1) := by decide +kernel
theorem dX9_join_66 : decode cX9_join 66 = .ok (.aload_n 0, 1) := by decide +kernel
theorem dX9_join_67 : decode cX9_join 67 = .ok (.getfield 11, 3) := by decide +kernel
theorem dX9_join_70 : decode cX9_join 70 = .ok (.iload_n 2, 1) := by decide +kernel
theorem dX9_join_71 : decode cX9_join 71 = .ok (.iaload, 1) := by decide +kernel
theorem dX9_join_72 : decode cX9_join 72 = .ok (.aload_n 0, 1) := by decide +kernel
theorem dX9_join_73 : decode cX9_join 73 = .ok (.getfield 11, 3) := by decide +kernel
theorem dX9_join_76 : decode cX9_join 76 = .ok (.iload 4, 2) := by decide +kernel
theorem dX9_join_78 : decode cX9_join 78 = .ok (.iaload, 1) := by decide +kernel
theorem dX9_join_79 : decode cX9_join 79 = .ok (.invokevirtual 48, 3) := by decide +kernel
theorem dX9_join_82 : decode cX9_join 82 = .ok (.iadd, 1) := by decide +kernel
theorem dX9_join_83 : decode cX9_join 83 = .ok (.invokevirtual 36, 3) := by decide +kernel
theorem dX9_join_86 : decode cX9_join 86 = .ok (.iinc 4 1, 3) := by decide +kernel
theorem dX9_join_89 : decode cX9_join 89 = .ok (.goto (-57), 3) := by decide +kernel
theorem dX9_join_92 : decode cX9_join 92 = .ok (.return_, 1) := by decide +kernel
theorem dX9_leadsBack_0 : decode cX9_leadsBack 0 = .ok (.iload_n 1, 1) := by decide +kernel
theorem dX9_leadsBack_1 : decode cX9_leadsBack 1 = .ok (.istore_n 3, 1) := by decide +kernel
theorem dX9_leadsBack_2 : decode cX9_leadsBack 2 = .ok (.iconst 0, 1) := by decide +kernel
theorem dX9_leadsBack_3 : decode cX9_leadsBack 3 = .ok (.istore 4, 2) := by decide +kernel
theorem dX9_leadsBack_5 : decode cX9_leadsBack 5 = .ok (.iload 4, 2) := by decide +kernel
theorem dX9_leadsBack_7 : decode cX9_leadsBack 7 = .ok (.bipush 6, 2) := by decide +kernel
theorem dX9_leadsBack_9 : decode cX9_leadsBack 9 = .ok (.if_icmp .ge 25, 3) := by decide +kernel
theorem dX9_leadsBack_12 : decode cX9_leadsBack 12 = .ok (.iload_n 3, 1) := by decide +kernel
theorem dX9_leadsBack_13 : decode cX9_leadsBack 13 = .ok (.ifCond .le 21, 3) := by decide +kernel
theorem dX9_leadsBack_16 : decode cX9_leadsBack 16 = .ok (.iload_n 3, 1) := by decide +kernel
theorem dX9_leadsBack_17 : decode cX9_leadsBack 17 = .ok (.iload_n 2, 1) := by decide +kernel
theorem dX9_leadsBack_18 : decode cX9_leadsBack 18 = .ok (.if_icmp .ge 16, 3) := by decide +kernel
theorem dX9_leadsBack_21 : decode cX9_leadsBack 21 = .ok (.aload_n 0, 1) := by decide +kernel
theorem dX9_leadsBack_22 : decode cX9_leadsBack 22 = .ok (.getfield 15, 3) := by decide +kernel
theorem dX9_leadsBack_25 : decode cX9_leadsBack 25 = .ok (.iload_n 3, 1) := by decide +kernel
theorem dX9_leadsBack_26 : decode cX9_leadsBack 26 = .ok (.iaload, 1) := by decide +kernel
theorem dX9_leadsBack_27 : decode cX9_leadsBack 27 = .ok (.istore_n 3, 1) := by decide +kernel
theorem dX9_leadsBack_28 : decode cX9_leadsBack 28 = .ok (.iinc 4 1, 3) := by decide +kernel
theorem dX9_leadsBack_31 : decode cX9_leadsBack 31 = .ok (.goto (-26), 3) := by decide +kernel
theorem dX9_leadsBack_34 : decode cX9_leadsBack 34 = .ok (.iload_n 3, 1) := by decide +kernel
theorem dX9_leadsBack_35 : decode cX9_leadsBack 35 = .ok (.iload_n 2, 1) := by decide +kernel
theorem dX9_leadsBack_36 : decode cX9_leadsBack 36 = .ok (.if_icmp .ne 7, 3) := by decide +kernel
theorem dX9_leadsBack_39 : decode cX9_leadsBack 39 = .ok (.iconst 1, 1) := by decide +kernel
theorem dX9_leadsBack_40 : decode cX9_leadsBack 40 = .ok (.goto 4, 3) := by decide +kernel
theorem dX9_leadsBack_43 : decode cX9_leadsBack 43 = .ok (.iconst 0, 1) := by decide +kernel
theorem dX9_leadsBack_44 : decode cX9_leadsBack 44 = .ok (.ireturn, 1) := by decide +kernel
theorem dX9_keep_0 : decode cX9_keep 0 = .ok (.iload_n 1, 1) := by decide +kernel
theorem dX9_keep_1 : decode cX9_keep 1 = .ok (.aload_n 0, 1) := by decide +kernel
theorem dX9_keep_2 : decode cX9_keep 2 = .ok (.getfield 25, 3) := by decide +kernel
theorem dX9_keep_5 : decode cX9_keep 5 = .ok (.if_icmp .ge 28, 3) := by decide +kernel
theorem dX9_keep_8 : decode cX9_keep 8 = .ok (.aload_n 0, 1) := by decide +kernel
theorem dX9_keep_9 : decode cX9_keep 9 = .ok (.iload_n 1, 1) := by decide +kernel
theorem dX9_keep_10 : decode cX9_keep 10 = .ok (.putfield 25, 3) := by decide +kernel
theorem dX9_keep_13 : decode cX9_keep 13 = .ok (.aload_n 0, 1) := by decide +kernel
theorem dX9_keep_14 : decode cX9_keep 14 = .ok (.iconst 0, 1) := by decide +kernel
theorem dX9_keep_15 : decode cX9_keep 15 = .ok (.putfield 28, 3) := by decide +kernel
theorem dX9_keep_18 : decode cX9_keep 18 = .ok (.aload_n 0, 1) := by decide +kernel
theorem dX9_keep_19 : decode cX9_keep 19 = .ok (.getfield 15, 3) := by decide +kernel
theorem dX9_keep_22 : decode cX9_keep 22 = .ok (.iconst 0, 1) := by decide +kernel
theorem dX9_keep_23 : decode cX9_keep 23 = .ok (.aload_n 0, 1) := by decide +kernel
theorem dX9_keep_24 : decode cX9_keep 24 = .ok (.getfield 18, 3) := by decide +kernel
theorem dX9_keep_27 : decode cX9_keep 27 = .ok (.iconst 0, 1) := by decide +kernel
theorem dX9_keep_28 : decode cX9_keep 28 = .ok (.bipush 6, 2) := by decide +kernel
theorem dX9_keep_30 : decode cX9_keep 30 = .ok (.invokestatic 52, 3) := by decide +kernel
theorem dX9_keep_33 : decode cX9_keep 33 = .ok (.aload_n 0, 1) := by decide +kernel
theorem dX9_keep_34 : decode cX9_keep 34 = .ok (.dup, 1) := by decide +kernel
theorem dX9_keep_35 : decode cX9_keep 35 = .ok (.getfield 28, 3) := by decide +kernel
theorem dX9_keep_38 : decode cX9_keep 38 = .ok (.iconst 1, 1) := by decide +kernel
theorem dX9_keep_39 : decode cX9_keep 39 = .ok (.iadd, 1) := by decide +kernel
theorem dX9_keep_40 : decode cX9_keep 40 = .ok (.putfield 28, 3) := by decide +kernel
theorem dX9_keep_43 : decode cX9_keep 43 = .ok (.return_, 1) := by decide +kernel
theorem dX9_joinedTo_0 : decode cX9_joinedTo 0 = .ok (.iload_n 1, 1) := by decide +kernel
theorem dX9_joinedTo_1 : decode cX9_joinedTo 1 = .ok (.iconst 1, 1) := by decide +kernel
theorem dX9_joinedTo_2 : decode cX9_joinedTo 2 = .ok (.if_icmp .lt 11, 3) := by decide +kernel
theorem dX9_joinedTo_5 : decode cX9_joinedTo 5 = .ok (.iload_n 1, 1) := by decide +kernel
theorem dX9_joinedTo_6 : decode cX9_joinedTo 6 = .ok (.aload_n 0, 1) := by decide +kernel
theorem dX9_joinedTo_7 : decode cX9_joinedTo 7 = .ok (.getfield 21, 3) := by decide +kernel
theorem dX9_joinedTo_10 : decode cX9_joinedTo 10 = .ok (.if_icmp .lt 5, 3) := by decide +kernel
theorem dX9_joinedTo_13 : decode cX9_joinedTo 13 = .ok (.iconst (-1), 1) := by decide +kernel
theorem dX9_joinedTo_14 : decode cX9_joinedTo 14 = .ok (.ireturn, 1) := by decide +kernel
theorem dX9_joinedTo_15 : decode cX9_joinedTo 15 = .ok (.aload_n 0, 1) := by decide +kernel
theorem dX9_joinedTo_16 : decode cX9_joinedTo 16 = .ok (.getfield 11, 3) := by decide +kernel
theorem dX9_joinedTo_19 : decode cX9_joinedTo 19 = .ok (.aload_n 0, 1) := by decide +kernel
theorem dX9_joinedTo_20 : decode cX9_joinedTo 20 = .ok (.getfield 18, 3) := by decide +kernel
theorem dX9_joinedTo_23 : decode cX9_joinedTo 23 = .ok (.iload_n 1, 1) := by decide +kernel
theorem dX9_joinedTo_24 : decode cX9_joinedTo 24 = .ok (.iaload, 1) := by decide +kernel
theorem dX9_joinedTo_25 : decode cX9_joinedTo 25 = .ok (.iaload, 1) := by decide +kernel
theorem dX9_joinedTo_26 : decode cX9_joinedTo 26 = .ok (.ireturn, 1) := by decide +kernel
theorem dX10_packedWith_0 : decode cX10_packedWith 0 = .ok (.lload_n 0, 1) := by decide +kernel
theorem dX10_packedWith_1 : decode cX10_packedWith 1 = .ok (.ldc2_w 135, 3) := by decide +kernel
theorem dX10_packedWith_4 : decode cX10_packedWith 4 = .ok (.lmul, 1) := by decide +kernel
theorem dX10_packedWith_5 : decode cX10_packedWith 5 = .ok (.iload_n 2, 1) := by decide +kernel
theorem dX10_packedWith_6 : decode cX10_packedWith 6 = .ok (.bipush 97, 2) := by decide +kernel
theorem dX10_packedWith_8 : decode cX10_packedWith 8 = .ok (.isub, 1) := by decide +kernel
theorem dX10_packedWith_9 : decode cX10_packedWith 9 = .ok (.iconst 1, 1) := by decide +kernel
theorem dX10_packedWith_10 : decode cX10_packedWith 10 = .ok (.iadd, 1) := by decide +kernel
theorem dX10_packedWith_11 : decode cX10_packedWith 11 = .ok (.i2l, 1) := by decide +kernel
theorem dX10_packedWith_12 : decode cX10_packedWith 12 = .ok (.ladd, 1) := by decide +kernel
theorem dX10_packedWith_13 : decode cX10_packedWith 13 = .ok (.lreturn, 1) := by decide +kernel
theorem dX10_of_0 : decode cX10_of 0 = .ok (.iconst 0, 1) := by decide +kernel
theorem dX10_of_1 : decode cX10_of 1 = .ok (.istore_n 2, 1) := by decide +kernel
theorem dX10_of_2 : decode cX10_of 2 = .ok (.iload_n 2, 1) := by decide +kernel
theorem dX10_of_3 : decode cX10_of 3 = .ok (.getstatic 137, 3) := by decide +kernel
theorem dX10_of_6 : decode cX10_of 6 = .ok (.arraylength, 1) := by decide +kernel
theorem dX10_of_7 : decode cX10_of 7 = .ok (.if_icmp .ge 28, 3) := by decide +kernel
theorem dX10_of_10 : decode cX10_of 10 = .ok (.getstatic 137, 3) := by decide +kernel
theorem dX10_of_13 : decode cX10_of 13 = .ok (.iload_n 2, 1) := by decide +kernel
theorem dX10_of_14 : decode cX10_of 14 = .ok (.aaload, 1) := by decide +kernel
theorem dX10_of_15 : decode cX10_of 15 = .ok (.getfield 127, 3) := by decide +kernel
theorem dX10_of_18 : decode cX10_of 18 = .ok (.lload_n 0, 1) := by decide +kernel
theorem dX10_of_19 : decode cX10_of 19 = .ok (.lcmp, 1) := by decide +kernel
theorem dX10_of_20 : decode cX10_of 20 = .ok (.ifCond .ne 9, 3) := by decide +kernel
theorem dX10_of_23 : decode cX10_of 23 = .ok (.getstatic 137, 3) := by decide +kernel
theorem dX10_of_26 : decode cX10_of 26 = .ok (.iload_n 2, 1) := by decide +kernel
theorem dX10_of_27 : decode cX10_of 27 = .ok (.aaload, 1) := by decide +kernel
theorem dX10_of_28 : decode cX10_of 28 = .ok (.areturn, 1) := by decide +kernel
theorem dX10_of_29 : decode cX10_of 29 = .ok (.iinc 2 1, 3) := by decide +kernel
theorem dX10_of_32 : decode cX10_of 32 = .ok (.goto (-30), 3) := by decide +kernel
theorem dX10_of_35 : decode cX10_of 35 = .ok (.getstatic 3, 3) := by decide +kernel
theorem dX10_of_38 : decode cX10_of 38 = .ok (.areturn, 1) := by decide +kernel
theorem dX11_init_0 : decode cX11_init 0 = .ok (.aload_n 0, 1) := by decide +kernel
theorem dX11_init_1 : decode cX11_init 1 = .ok (.invokespecial 3, 3) := by decide +kernel
theorem dX11_init_4 : decode cX11_init 4 = .ok (.aload_n 0, 1) := by decide +kernel
theorem dX11_init_5 : decode cX11_init 5 = .ok (.new 9, 3) := by decide +kernel
theorem dX11_init_8 : decode cX11_init 8 = .ok (.dup, 1) := by decide +kernel
theorem dX11_init_9 : decode cX11_init 9 = .ok (.invokespecial 11, 3) := by decide +kernel
theorem dX11_init_12 : decode cX11_init 12 = .ok (.putfield 12, 3) := by decide +kernel
theorem dX11_init_15 : decode cX11_init 15 = .ok (.aload_n 0, 1) := by decide +kernel
theorem dX11_init_16 : decode cX11_init 16 = .ok (.lconst 0, 1) := by decide +kernel
theorem dX11_init_17 : decode cX11_init 17 = .ok (.putfield 18, 3) := by decide +kernel
theorem dX11_init_20 : decode cX11_init 20 = .ok (.aload_n 0, 1) := by decide +kernel
theorem dX11_init_21 : decode cX11_init 21 = .ok (.iconst 0, 1) := by decide +kernel
theorem dX11_init_22 : decode cX11_init 22 = .ok (.putfield 22, 3) := by decide +kernel
theorem dX11_init_25 : decode cX11_init 25 = .ok (.return_, 1) := by decide +kernel
theorem dX11_pass_0 : decode cX11_pass 0 = .ok (.aload_n 0, 1) := by decide +kernel
theorem dX11_pass_1 : decode cX11_pass 1 = .ok (.getfield 12, 3) := by decide +kernel
theorem dX11_pass_4 : decode cX11_pass 4 = .ok (.aload_n 1, 1) := by decide +kernel
theorem dX11_pass_5 : decode cX11_pass 5 = .ok (.invokevirtual 26, 3) := by decide +kernel
theorem dX11_pass_8 : decode cX11_pass 8 = .ok (.aload_n 0, 1) := by decide +kernel
theorem dX11_pass_9 : decode cX11_pass 9 = .ok (.iload_n 3, 1) := by decide +kernel
theorem dX11_pass_10 : decode cX11_pass 10 = .ok (.i2l, 1) := by decide +kernel
theorem dX11_pass_11 : decode cX11_pass 11 = .ok (.putfield 18, 3) := by decide +kernel
theorem dX11_pass_14 : decode cX11_pass 14 = .ok (.aload_n 0, 1) := by decide +kernel
theorem dX11_pass_15 : decode cX11_pass 15 = .ok (.iconst 0, 1) := by decide +kernel
theorem dX11_pass_16 : decode cX11_pass 16 = .ok (.putfield 22, 3) := by decide +kernel
theorem dX11_pass_19 : decode cX11_pass 19 = .ok (.iconst 0, 1) := by decide +kernel
theorem dX11_pass_20 : decode cX11_pass 20 = .ok (.istore 5, 2) := by decide +kernel
theorem dX11_pass_22 : decode cX11_pass 22 = .ok (.iload 5, 2) := by decide +kernel
theorem dX11_pass_24 : decode cX11_pass 24 = .ok (.iload 4, 2) := by decide +kernel
theorem dX11_pass_26 : decode cX11_pass 26 = .ok (.if_icmp .ge 36, 3) := by decide +kernel
theorem dX11_pass_29 : decode cX11_pass 29 = .ok (.aload_n 2, 1) := by decide +kernel
theorem dX11_pass_30 : decode cX11_pass 30 = .ok (.getfield 30, 3) := by decide +kernel
theorem dX11_pass_33 : decode cX11_pass 33 = .ok (.ifCond .le 16, 3) := by decide +kernel
theorem dX11_pass_36 : decode cX11_pass 36 = .ok (.aload_n 0, 1) := by decide +kernel
theorem dX11_pass_37 : decode cX11_pass 37 = .ok (.aload_n 2, 1) := by decide +kernel
theorem dX11_pass_38 : decode cX11_pass 38 = .ok (.aload_n 0, 1) := by decide +kernel
theorem dX11_pass_39 : decode cX11_pass 39 = .ok (.aload_n 2, 1) := by decide +kernel
theorem dX11_pass_40 : decode cX11_pass 40 = .ok (.getfield 30, 3) := by decide +kernel
theorem dX11_pass_43 : decode cX11_pass 43 = .ok (.invokevirtual 35, 3) := by decide +kernel
theorem dX11_pass_46 : decode cX11_pass 46 = .ok (.invokevirtual 39, 3) := by decide +kernel
theorem dX11_pass_49 : decode cX11_pass 49 = .ok (.aload_n 0, 1) := by decide +kernel
theorem dX11_pass_50 : decode cX11_pass 50 = .ok (.getfield 12, 3) := by decide +kernel
theorem dX11_pass_53 : decode cX11_pass 53 = .ok (.invokevirtual 43, 3) := by decide +kernel
theorem dX11_pass_56 : decode cX11_pass 56 = .ok (.iinc 5 1, 3) := by decide +kernel
theorem dX11_pass_59 : decode cX11_pass 59 = .ok (.goto (-37), 3) := by decide +kernel
theorem dX11_pass_62 : decode cX11_pass 62 = .ok (.return_, 1) := by decide +kernel
theorem dX11_draw_0 : decode cX11_draw 0 = .ok (.aload_n 0, 1) := by decide +kernel
theorem dX11_draw_1 : decode cX11_draw 1 = .ok (.aload_n 0, 1) := by decide +kernel
theorem dX11_draw_2 : decode cX11_draw 2 = .ok (.getfield 18, 3) := by decide +kernel
theorem dX11_draw_5 : decode cX11_draw 5 = .ok (.ldc2_w 46, 3) := by decide +kernel
theorem dX11_draw_8 : decode cX11_draw 8 = .ok (.lmul, 1) := by decide +kernel
theorem dX11_draw_9 : decode cX11_draw 9 = .ok (.ldc2_w 48, 3) := by decide +kernel
theorem dX11_draw_12 : decode cX11_draw 12 = .ok (.ladd, 1) := by decide +kernel
theorem dX11_draw_13 : decode cX11_draw 13 = .ok (.ldc2_w 50, 3) := by decide +kernel
theorem dX11_draw_16 : decode cX11_draw 16 = .ok (.lrem, 1) := by decide +kernel
theorem dX11_draw_17 : decode cX11_draw 17 = .ok (.putfield 18, 3) := by decide +kernel
theorem dX11_draw_20 : decode cX11_draw 20 = .ok (.iload_n 1, 1) := by decide +kernel
theorem dX11_draw_21 : decode cX11_draw 21 = .ok (.ifCond .le 18, 3) := by decide +kernel
theorem dX11_draw_24 : decode cX11_draw 24 = .ok (.aload_n 0, 1) := by decide +kernel
theorem dX11_draw_25 : decode cX11_draw 25 = .ok (.getfield 18, 3) := by decide +kernel
theorem dX11_draw_28 : decode cX11_draw 28 = .ok (.ldc2_w 52, 3) := by decide +kernel
theorem dX11_draw_31 : decode cX11_draw 31 = .ok (.ldiv, 1) := by decide +kernel
theorem dX11_draw_32 : decode cX11_draw 32 = .ok (.iload_n 1, 1) := by decide +kernel
theorem dX11_draw_33 : decode cX11_draw 33 = .ok (.i2l, 1) := by decide +kernel
theorem dX11_draw_34 : decode cX11_draw 34 = .ok (.lrem, 1) := by decide +kernel
theorem dX11_draw_35 : decode cX11_draw 35 = .ok (.l2i, 1) := by decide +kernel
theorem dX11_draw_36 : decode cX11_draw 36 = .ok (.goto 4, 3) := by decide +kernel
theorem dX11_draw_39 : decode cX11_draw 39 = .ok (.iconst 0, 1) := by decide +kernel
theorem dX11_draw_40 : decode cX11_draw 40 = .ok (.ireturn, 1) := by decide +kernel
theorem dX11_act_0 : decode cX11_act 0 = .ok (.aload_n 0, 1) := by decide +kernel
theorem dX11_act_1 : decode cX11_act 1 = .ok (.iconst 4, 1) := by decide +kernel
theorem dX11_act_2 : decode cX11_act 2 = .ok (.invokevirtual 35, 3) := by decide +kernel
theorem dX11_act_5 : decode cX11_act 5 = .ok (.istore_n 3, 1) := by decide +kernel
theorem dX11_act_6 : decode cX11_act 6 = .ok (.aload_n 0, 1) := by decide +kernel
theorem dX11_act_7 : decode cX11_act 7 = .ok (.getfield 12, 3) := by decide +kernel
theorem dX11_act_10 : decode cX11_act 10 = .ok (.iload_n 2, 1) := by decide +kernel
theorem dX11_act_11 : decode cX11_act 11 = .ok (.invokevirtual 54, 3) := by decide +kernel
theorem dX11_act_14 : decode cX11_act 14 = .ok (.istore 4, 2) := by decide +kernel
theorem dX11_act_16 : decode cX11_act 16 = .ok (.iload 4, 2) := by decide +kernel
theorem dX11_act_18 : decode cX11_act 18 = .ok (.invokestatic 57, 3) := by decide +kernel
theorem dX11_act_21 : decode cX11_act 21 = .ok (.istore 5, 2) := by decide +kernel
theorem dX11_act_23 : decode cX11_act 23 = .ok (.bipush 31, 2) := by decide +kernel
theorem dX11_act_25 : decode cX11_act 25 = .ok (.iload 4, 2) := by decide +kernel
theorem dX11_act_27 : decode cX11_act 27 = .ok (.invokestatic 62, 3) := by decide +kernel
theorem dX11_act_30 : decode cX11_act 30 = .ok (.isub, 1) := by decide +kernel
theorem dX11_act_31 : decode cX11_act 31 = .ok (.istore 6, 2) := by decide +kernel
theorem dX11_act_33 : decode cX11_act 33 = .ok (.iload_n 3, 1) := by decide +kernel
theorem dX11_act_34 : decode cX11_act 34 = .ok (.iconst 1, 1) := by decide +kernel
theorem dX11_act_35 : decode cX11_act 35 = .ok (.if_icmp .ne 18, 3) := by decide +kernel
theorem dX11_act_38 : decode cX11_act 38 = .ok (.aload_n 0, 1) := by decide +kernel
theorem dX11_act_39 : decode cX11_act 39 = .ok (.getfield 12, 3) := by decide +kernel
theorem dX11_act_42 : decode cX11_act 42 = .ok (.aload_n 1, 1) := by decide +kernel
theorem dX11_act_43 : decode cX11_act 43 = .ok (.iload_n 2, 1) := by decide +kernel
theorem dX11_act_44 : decode cX11_act 44 = .ok (.iload 6, 2) := by decide +kernel
theorem dX11_act_46 : decode cX11_act 46 = .ok (.invokevirtual 65, 3) := by decide +kernel
theorem dX11_act_49 : decode cX11_act 49 = .ok (.pop, 1) := by decide +kernel
theorem dX11_act_50 : decode cX11_act 50 = .ok (.goto 90, 3) := by decide +kernel
theorem dX11_act_53 : decode cX11_act 53 = .ok (.iload_n 3, 1) := by decide +kernel
theorem dX11_act_54 : decode cX11_act 54 = .ok (.ifCond .eq 35, 3) := by decide +kernel
theorem dX11_act_57 : decode cX11_act 57 = .ok (.aload_n 0, 1) := by decide +kernel
theorem dX11_act_58 : decode cX11_act 58 = .ok (.dup, 1) := by decide +kernel
theorem dX11_act_59 : decode cX11_act 59 = .ok (.getfield 22, 3) := by decide +kernel
theorem dX11_act_62 : decode cX11_act 62 = .ok (.aload_n 0, 1) := by decide +kernel
theorem dX11_act_63 : decode cX11_act 63 = .ok (.getfield 12, 3) := by decide +kernel
theorem dX11_act_66 : decode cX11_act 66 = .ok (.aload_n 1, 1) := by decide +kernel
theorem dX11_act_67 : decode cX11_act 67 = .ok (.iload_n 2, 1) := by decide +kernel
theorem dX11_act_68 : decode cX11_act 68 = .ok (.iload 5, 2) := by decide +kernel
theorem dX11_act_70 : decode cX11_act 70 = .ok (.invokevirtual 69, 3) := by decide +kernel
theorem dX11_act_73 : decode cX11_act 73 = .ok (.iconst (-1), 1) := by decide +kernel
theorem dX11_act_74 : decode cX11_act 74 = .ok (.if_icmp .eq 7, 3) := by decide +kernel
theorem dX11_act_77 : decode cX11_act 77 = .ok (.iconst 1, 1) := by decide +kernel
theorem dX11_act_78 : decode cX11_act 78 = .ok (.goto 4, 3) := by decide +kernel
theorem dX11_act_81 : decode cX11_act 81 = .ok (.iconst 0, 1) := by decide +kernel
theorem dX11_act_82 : decode cX11_act 82 = .ok (.iadd, 1) := by decide +kernel
theorem dX11_act_83 : decode cX11_act 83 = .ok (.putfield 22, 3) := by decide +kernel
theorem dX11_act_86 : decode cX11_act 86 = .ok (.goto 54, 3) := by decide +kernel
theorem dX11_act_89 : decode cX11_act 89 = .ok (.aload_n 1, 1) := by decide +kernel
theorem dX11_act_90 : decode cX11_act 90 = .ok (.getfield 72, 3) := by decide +kernel
theorem dX11_act_93 : decode cX11_act 93 = .ok (.ifCond .le 47, 3) := by decide +kernel
theorem dX11_act_96 : decode cX11_act 96 = .ok (.aload_n 1, 1) := by decide +kernel
theorem dX11_act_97 : decode cX11_act 97 = .ok (.getfield 75, 3) := by decide +kernel
theorem dX11_act_100 : decode cX11_act 100 = .ok (.iload_n 2, 1) := by decide +kernel
theorem dX11_act_101 : decode cX11_act 101 = .ok (.iaload, 1) := by decide +kernel
theorem dX11_act_102 : decode cX11_act 102 = .ok (.iconst 3, 1) := by decide +kernel
theorem dX11_act_103 : decode cX11_act 103 = .ok (.if_icmp .ne 13, 3) := by decide +kernel
theorem dX11_act_106 : decode cX11_act 106 = .ok (.aload_n 0, 1) := by decide +kernel
theorem dX11_act_107 : decode cX11_act 107 = .ok (.getfield 12, 3) := by decide +kernel
theorem dX11_act_110 : decode cX11_act 110 = .ok (.getfield 79, 3) := by decide +kernel
theorem dX11_act_113 : decode cX11_act 113 = .ok (.goto 5, 3) := by decide +kernel
theorem dX11_act_116 : decode cX11_act 116 = .ok (.iload 5, 2) := by decide +kernel
theorem dX11_act_118 : decode cX11_act 118 = .ok (.istore 7, 2) := by decide +kernel
theorem dX11_act_120 : decode cX11_act 120 = .ok (.aload_n 0, 1) := by decide +kernel
theorem dX11_act_121 : decode cX11_act 121 = .ok (.getfield 12, 3) := by decide +kernel
theorem dX11_act_124 : decode cX11_act 124 = .ok (.aload_n 1, 1) := by decide +kernel
theorem dX11_act_125 : decode cX11_act 125 = .ok (.iload_n 2, 1) := by decide +kernel
theorem dX11_act_126 : decode cX11_act 126 = .ok (.iload 7, 2) := by decide +kernel
theorem dX11_act_128 : decode cX11_act 128 = .ok (.aload_n 0, 1) := by decide +kernel
theorem dX11_act_129 : decode cX11_act 129 = .ok (.aload_n 1, 1) := by decide +kernel
theorem dX11_act_130 : decode cX11_act 130 = .ok (.getfield 72, 3) := by decide +kernel
theorem dX11_act_133 : decode cX11_act 133 = .ok (.invokevirtual 35, 3) := by decide +kernel
theorem dX11_act_136 : decode cX11_act 136 = .ok (.invokevirtual 82, 3) := by decide +kernel
theorem dX11_act_139 : decode cX11_act 139 = .ok (.pop, 1) := by decide +kernel
theorem dX11_act_140 : decode cX11_act 140 = .ok (.return_, 1) := by decide +kernel
theorem dX12_init_0 : decode cX12_init 0 = .ok (.aload_n 0, 1) := by decide +kernel
theorem dX12_init_1 : decode cX12_init 1 = .ok (.invokespecial 3, 3) := by decide +kernel
theorem dX12_init_4 : decode cX12_init 4 = .ok (.aload_n 0, 1) := by decide +kernel
theorem dX12_init_5 : decode cX12_init 5 = .ok (.new 9, 3) := by decide +kernel
theorem dX12_init_8 : decode cX12_init 8 = .ok (.dup, 1) := by decide +kernel
theorem dX12_init_9 : decode cX12_init 9 = .ok (.invokespecial 11, 3) := by decide +kernel
theorem dX12_init_12 : decode cX12_init 12 = .ok (.putfield 12, 3) := by decide +kernel
theorem dX12_init_15 : decode cX12_init 15 = .ok (.aload_n 0, 1) := by decide +kernel
theorem dX12_init_16 : decode cX12_init 16 = .ok (.new 16, 3) := by decide +kernel
theorem dX12_init_19 : decode cX12_init 19 = .ok (.dup, 1) := by decide +kernel
theorem dX12_init_20 : decode cX12_init 20 = .ok (.aload_n 0, 1) := by decide +kernel
theorem dX12_init_21 : decode cX12_init 21 = .ok (.getfield 12, 3) := by decide +kernel
theorem dX12_init_24 : decode cX12_init 24 = .ok (.invokespecial 18, 3) := by decide +kernel
theorem dX12_init_27 : decode cX12_init 27 = .ok (.putfield 21, 3) := by decide +kernel
theorem dX12_init_30 : decode cX12_init 30 = .ok (.aload_n 0, 1) := by decide +kernel
theorem dX12_init_31 : decode cX12_init 31 = .ok (.new 25, 3) := by decide +kernel
theorem dX12_init_34 : decode cX12_init 34 = .ok (.dup, 1) := by decide +kernel
theorem dX12_init_35 : decode cX12_init 35 = .ok (.invokespecial 27, 3) := by decide +kernel
theorem dX12_init_38 : decode cX12_init 38 = .ok (.putfield 28, 3) := by decide +kernel
theorem dX12_init_41 : decode cX12_init 41 = .ok (.aload_n 0, 1) := by decide +kernel
theorem dX12_init_42 : decode cX12_init 42 = .ok (.new 25, 3) := by decide +kernel
theorem dX12_init_45 : decode cX12_init 45 = .ok (.dup, 1) := by decide +kernel
theorem dX12_init_46 : decode cX12_init 46 = .ok (.invokespecial 27, 3) := by decide +kernel
theorem dX12_init_49 : decode cX12_init 49 = .ok (.putfield 32, 3) := by decide +kernel
theorem dX12_init_52 : decode cX12_init 52 = .ok (.aload_n 0, 1) := by decide +kernel
theorem dX12_init_53 : decode cX12_init 53 = .ok (.bipush 17, 2) := by decide +kernel
theorem dX12_init_55 : decode cX12_init 55 = .ok (.anewarray 25, 3) := by decide +kernel
theorem dX12_init_58 : decode cX12_init 58 = .ok (.putfield 35, 3) := by decide +kernel
theorem dX12_init_61 : decode cX12_init 61 = .ok (.aload_n 0, 1) := by decide +kernel
theorem dX12_init_62 : decode cX12_init 62 = .ok (.iconst 4, 1) := by decide +kernel
theorem dX12_init_63 : decode cX12_init 63 = .ok (.anewarray 25, 3) := by decide +kernel
theorem dX12_init_66 : decode cX12_init 66 = .ok (.putfield 39, 3) := by decide +kernel
theorem dX12_init_69 : decode cX12_init 69 = .ok (.aload_n 0, 1) := by decide +kernel
theorem dX12_init_70 : decode cX12_init 70 = .ok (.new 42, 3) := by decide +kernel
theorem dX12_init_73 : decode cX12_init 73 = .ok (.dup, 1) := by decide +kernel
theorem dX12_init_74 : decode cX12_init 74 = .ok (.invokespecial 44, 3) := by decide +kernel
theorem dX12_init_77 : decode cX12_init 77 = .ok (.putfield 45, 3) := by decide +kernel
theorem dX12_init_80 : decode cX12_init 80 = .ok (.aload_n 0, 1) := by decide +kernel
theorem dX12_init_81 : decode cX12_init 81 = .ok (.new 49, 3) := by decide +kernel
theorem dX12_init_84 : decode cX12_init 84 = .ok (.dup, 1) := by decide +kernel
theorem dX12_init_85 : decode cX12_init 85 = .ok (.invokespecial 51, 3) := by decide +kernel
theorem dX12_init_88 : decode cX12_init 88 = .ok (.putfield 52, 3) := by decide +kernel
theorem dX12_init_91 : decode cX12_init 91 = .ok (.aload_n 0, 1) := by decide +kernel
theorem dX12_init_92 : decode cX12_init 92 = .ok (.new 56, 3) := by decide +kernel
theorem dX12_init_95 : decode cX12_init 95 = .ok (.dup, 1) := by decide +kernel
theorem dX12_init_96 : decode cX12_init 96 = .ok (.invokespecial 58, 3) := by decide +kernel
theorem dX12_init_99 : decode cX12_init 99 = .ok (.putfield 59, 3) := by decide +kernel
theorem dX12_init_102 : decode cX12_init 102 = .ok (.aload_n 0, 1) := by decide +kernel
theorem dX12_init_103 : decode cX12_init 103 = .ok (.bipush 32, 2) := by decide +kernel
theorem dX12_init_105 : decode cX12_init 105 = .ok (.newarray .int, 2) := by decide +kernel
theorem dX12_init_107 : decode cX12_init 107 = .ok (.putfield 63, 3) := by decide +kernel
theorem dX12_init_110 : decode cX12_init 110 = .ok (.aload_n 0, 1) := by decide +kernel
theorem dX12_init_111 : decode cX12_init 111 = .ok (.bipush 9, 2) := by decide +kernel
theorem dX12_init_113 : decode cX12_init 113 = .ok (.newarray .int, 2) := by decide +kernel
theorem dX12_init_115 : decode cX12_init 115 = .ok (.putfield 67, 3) := by decide +kernel
theorem dX12_init_118 : decode cX12_init 118 = .ok (.aload_n 0, 1) := by decide +kernel
theorem dX12_init_119 : decode cX12_init 119 = .ok (.bipush 9, 2) := by decide +kernel
theorem dX12_init_121 : decode cX12_init 121 = .ok (.newarray .int, 2) := by decide +kernel
theorem dX12_init_123 : decode cX12_init 123 = .ok (.putfield 70, 3) := by decide +kernel
theorem dX12_init_126 : decode cX12_init 126 = .ok (.aload_n 0, 1) := by decide +kernel
theorem dX12_init_127 : decode cX12_init 127 = .ok (.new 73, 3) := by decide +kernel
theorem dX12_init_130 : decode cX12_init 130 = .ok (.dup, 1) := by decide +kernel
theorem dX12_init_131 : decode cX12_init 131 = .ok (.invokespecial 75, 3) := by decide +kernel
theorem dX12_init_134 : decode cX12_init 134 = .ok (.putfield 76, 3) := by decide +kernel
theorem dX12_init_137 : decode cX12_init 137 = .ok (.aload_n 0, 1) := by decide +kernel
theorem dX12_init_138 : decode cX12_init 138 = .ok (.new 73, 3) := by decide +kernel
theorem dX12_init_141 : decode cX12_init 141 = .ok (.dup, 1) := by decide +kernel
theorem dX12_init_142 : decode cX12_init 142 = .ok (.invokespecial 75, 3) := by decide +kernel
theorem dX12_init_145 : decode cX12_init 145 = .ok (.putfield 80, 3) := by decide +kernel
theorem dX12_init_148 : decode cX12_init 148 = .ok (.aload_n 0, 1) := by decide +kernel
theorem dX12_init_149 : decode cX12_init 149 = .ok (.new 83, 3) := by decide +kernel
theorem dX12_init_152 : decode cX12_init 152 = .ok (.dup, 1) := by decide +kernel
theorem dX12_init_153 : decode cX12_init 153 = .ok (.invokespecial 85, 3) := by decide +kernel
theorem dX12_init_156 : decode cX12_init 156 = .ok (.putfield 86, 3) := by decide +kernel
theorem dX12_init_159 : decode cX12_init 159 = .ok (.aload_n 0, 1) := by decide +kernel
theorem dX12_init_160 : decode cX12_init 160 = .ok (.new 83, 3) := by decide +kernel
theorem dX12_init_163 : decode cX12_init 163 = .ok (.dup, 1) := by decide +kernel
theorem dX12_init_164 : decode cX12_init 164 = .ok (.invokespecial 85, 3) := by decide +kernel
theorem dX12_init_167 : decode cX12_init 167 = .ok (.putfield 90, 3) := by decide +kernel
theorem dX12_init_170 : decode cX12_init 170 = .ok (.aload_n 0, 1) := by decide +kernel
theorem dX12_init_171 : decode cX12_init 171 = .ok (.iconst 0, 1) := by decide +kernel
theorem dX12_init_172 : decode cX12_init 172 = .ok (.putfield 93, 3) := by decide +kernel
theorem dX12_init_175 : decode cX12_init 175 = .ok (.aload_n 0, 1) := by decide +kernel
theorem dX12_init_176 : decode cX12_init 176 = .ok (.iconst 0, 1) := by decide +kernel
theorem dX12_init_177 : decode cX12_init 177 = .ok (.putfield 97, 3) := by decide +kernel
theorem dX12_init_180 : decode cX12_init 180 = .ok (.aload_n 0, 1) := by decide +kernel
theorem dX12_init_181 : decode cX12_init 181 = .ok (.iconst 0, 1) := by decide +kernel
theorem dX12_init_182 : decode cX12_init 182 = .ok (.putfield 100, 3) := by decide +kernel
theorem dX12_init_185 : decode cX12_init 185 = .ok (.iconst 0, 1) := by decide +kernel
theorem dX12_init_186 : decode cX12_init 186 = .ok (.istore_n 1, 1) := by decide +kernel
theorem dX12_init_187 : decode cX12_init 187 = .ok (.iload_n 1, 1) := by decide +kernel
theorem dX12_init_188 : decode cX12_init 188 = .ok (.bipush 17, 2) := by decide +kernel
theorem dX12_init_190 : decode cX12_init 190 = .ok (.if_icmp .ge 22, 3) := by decide +kernel
theorem dX12_init_193 : decode cX12_init 193 = .ok (.aload_n 0, 1) := by decide +kernel
theorem dX12_init_194 : decode cX12_init 194 = .ok (.getfield 35, 3) := by decide +kernel
theorem dX12_init_197 : decode cX12_init 197 = .ok (.iload_n 1, 1) := by decide +kernel
theorem dX12_init_198 : decode cX12_init 198 = .ok (.new 25, 3) := by decide +kernel
theorem dX12_init_201 : decode cX12_init 201 = .ok (.dup, 1) := by decide +kernel
theorem dX12_init_202 : decode cX12_init 202 = .ok (.invokespecial 27, 3) := by decide +kernel
theorem dX12_init_205 : decode cX12_init 205 = .ok (.aastore, 1) := by decide +kernel
theorem dX12_init_206 : decode cX12_init 206 = .ok (.iinc 1 1, 3) := by decide +kernel
theorem dX12_init_209 : decode cX12_init 209 = .ok (.goto (-22), 3) := by decide +kernel
theorem dX12_init_212 : decode cX12_init 212 = .ok (.iconst 0, 1) := by decide +kernel
theorem dX12_init_213 : decode cX12_init 213 = .ok (.istore_n 1, 1) := by decide +kernel
theorem dX12_init_214 : decode cX12_init 214 = .ok (.iload_n 1, 1) := by decide +kernel
theorem dX12_init_215 : decode cX12_init 215 = .ok (.iconst 4, 1) := by decide +kernel
theorem dX12_init_216 : decode cX12_init 216 = .ok (.if_icmp .ge 22, 3) := by decide +kernel
theorem dX12_init_219 : decode cX12_init 219 = .ok (.aload_n 0, 1) := by decide +kernel
theorem dX12_init_220 : decode cX12_init 220 = .ok (.getfield 39, 3) := by decide +kernel
theorem dX12_init_223 : decode cX12_init 223 = .ok (.iload_n 1, 1) := by decide +kernel
theorem dX12_init_224 : decode cX12_init 224 = .ok (.new 25, 3) := by decide +kernel
theorem dX12_init_227 : decode cX12_init 227 = .ok (.dup, 1) := by decide +kernel
theorem dX12_init_228 : decode cX12_init 228 = .ok (.invokespecial 27, 3) := by decide +kernel
theorem dX12_init_231 : decode cX12_init 231 = .ok (.aastore, 1) := by decide +kernel
theorem dX12_init_232 : decode cX12_init 232 = .ok (.iinc 1 1, 3) := by decide +kernel
theorem dX12_init_235 : decode cX12_init 235 = .ok (.goto (-21), 3) := by decide +kernel
theorem dX12_init_238 : decode cX12_init 238 = .ok (.return_, 1) := by decide +kernel
theorem dX12_feed_0 : decode cX12_feed 0 = .ok (.aload_n 0, 1) := by decide +kernel
theorem dX12_feed_1 : decode cX12_feed 1 = .ok (.getfield 12, 3) := by decide +kernel
theorem dX12_feed_4 : decode cX12_feed 4 = .ok (.lload_n 1, 1) := by decide +kernel
theorem dX12_feed_5 : decode cX12_feed 5 = .ok (.invokevirtual 103, 3) := by decide +kernel
theorem dX12_feed_8 : decode cX12_feed 8 = .ok (.aload_n 0, 1) := by decide +kernel
theorem dX12_feed_9 : decode cX12_feed 9 = .ok (.getfield 12, 3) := by decide +kernel
theorem dX12_feed_12 : decode cX12_feed 12 = .ok (.lload_n 3, 1) := by decide +kernel
theorem dX12_feed_13 : decode cX12_feed 13 = .ok (.invokevirtual 103, 3) := by decide +kernel
theorem dX12_feed_16 : decode cX12_feed 16 = .ok (.aload_n 0, 1) := by decide +kernel
theorem dX12_feed_17 : decode cX12_feed 17 = .ok (.getfield 12, 3) := by decide +kernel
theorem dX12_feed_20 : decode cX12_feed 20 = .ok (.lload 5, 2) := by decide +kernel
theorem dX12_feed_22 : decode cX12_feed 22 = .ok (.invokevirtual 103, 3) := by decide +kernel
theorem dX12_feed_25 : decode cX12_feed 25 = .ok (.aload_n 0, 1) := by decide +kernel
theorem dX12_feed_26 : decode cX12_feed 26 = .ok (.getfield 12, 3) := by decide +kernel
theorem dX12_feed_29 : decode cX12_feed 29 = .ok (.getfield 107, 3) := by decide +kernel
theorem dX12_feed_32 : decode cX12_feed 32 = .ok (.ireturn, 1) := by decide +kernel
theorem dX12_gallery_0 : decode cX12_gallery 0 = .ok (.aload_n 0, 1) := by decide +kernel
theorem dX12_gallery_1 : decode cX12_gallery 1 = .ok (.getfield 21, 3) := by decide +kernel
theorem dX12_gallery_4 : decode cX12_gallery 4 = .ok (.aload_n 0, 1) := by decide +kernel
theorem dX12_gallery_5 : decode cX12_gallery 5 = .ok (.getfield 80, 3) := by decide +kernel
theorem dX12_gallery_8 : decode cX12_gallery 8 = .ok (.invokevirtual 110, 3) := by decide +kernel
theorem dX12_gallery_11 : decode cX12_gallery 11 = .ok (.istore_n 1, 1) := by decide +kernel
theorem dX12_gallery_12 : decode cX12_gallery 12 = .ok (.iload_n 1, 1) := by decide +kernel
theorem dX12_gallery_13 : decode cX12_gallery 13 = .ok (.ifCond .ne 25, 3) := by decide +kernel
theorem dX12_gallery_16 : decode cX12_gallery 16 = .ok (.aload_n 0, 1) := by decide +kernel
theorem dX12_gallery_17 : decode cX12_gallery 17 = .ok (.getfield 76, 3) := by decide +kernel
theorem dX12_gallery_20 : decode cX12_gallery 20 = .ok (.astore_n 2, 1) := by decide +kernel
theorem dX12_gallery_21 : decode cX12_gallery 21 = .ok (.aload_n 0, 1) := by decide +kernel
theorem dX12_gallery_22 : decode cX12_gallery 22 = .ok (.aload_n 0, 1) := by decide +kernel
theorem dX12_gallery_23 : decode cX12_gallery 23 = .ok (.getfield 80, 3) := by decide +kernel
theorem dX12_gallery_26 : decode cX12_gallery 26 = .ok (.putfield 76, 3) := by decide +kernel
theorem dX12_gallery_29 : decode cX12_gallery 29 = .ok (.aload_n 0, 1) := by decide +kernel
theorem dX12_gallery_30 : decode cX12_gallery 30 = .ok (.aload_n 2, 1) := by decide +kernel
theorem dX12_gallery_31 : decode cX12_gallery 31 = .ok (.putfield 80, 3) := by decide +kernel
theorem dX12_gallery_34 : decode cX12_gallery 34 = .ok (.aload_n 0, 1) := by decide +kernel
theorem dX12_gallery_35 : decode cX12_gallery 35 = .ok (.invokevirtual 114, 3) := by decide +kernel
theorem dX12_gallery_38 : decode cX12_gallery 38 = .ok (.iload_n 1, 1) := by decide +kernel
theorem dX12_gallery_39 : decode cX12_gallery 39 = .ok (.ireturn, 1) := by decide +kernel
theorem dX12_startAnew_0 : decode cX12_startAnew 0 = .ok (.aload_n 0, 1) := by decide +kernel
theorem dX12_startAnew_1 : decode cX12_startAnew 1 = .ok (.getfield 28, 3) := by decide +kernel
theorem dX12_startAnew_4 : decode cX12_startAnew 4 = .ok (.aload_n 0, 1) := by decide +kernel
theorem dX12_startAnew_5 : decode cX12_startAnew 5 = .ok (.getfield 76, 3) := by decide +kernel
theorem dX12_startAnew_8 : decode cX12_startAnew 8 = .ok (.getfield 117, 3) := by decide +kernel
theorem dX12_startAnew_11 : decode cX12_startAnew 11 = .ok (.invokevirtual 120, 3) := by decide +kernel
theorem dX12_startAnew_14 : decode cX12_startAnew 14 = .ok (.aload_n 0, 1) := by decide +kernel
theorem dX12_startAnew_15 : decode cX12_startAnew 15 = .ok (.getfield 86, 3) := by decide +kernel
theorem dX12_startAnew_18 : decode cX12_startAnew 18 = .ok (.iconst 0, 1) := by decide +kernel
theorem dX12_startAnew_19 : decode cX12_startAnew 19 = .ok (.putfield 124, 3) := by decide +kernel
theorem dX12_startAnew_22 : decode cX12_startAnew 22 = .ok (.aload_n 0, 1) := by decide +kernel
theorem dX12_startAnew_23 : decode cX12_startAnew 23 = .ok (.iconst 0, 1) := by decide +kernel
theorem dX12_startAnew_24 : decode cX12_startAnew 24 = .ok (.putfield 97, 3) := by decide +kernel
theorem dX12_startAnew_27 : decode cX12_startAnew 27 = .ok (.aload_n 0, 1) := by decide +kernel
theorem dX12_startAnew_28 : decode cX12_startAnew 28 = .ok (.iconst 0, 1) := by decide +kernel
theorem dX12_startAnew_29 : decode cX12_startAnew 29 = .ok (.putfield 100, 3) := by decide +kernel
theorem dX12_startAnew_32 : decode cX12_startAnew 32 = .ok (.return_, 1) := by decide +kernel
theorem dX12_nights_0 : decode cX12_nights 0 = .ok (.aload_n 0, 1) := by decide +kernel
theorem dX12_nights_1 : decode cX12_nights 1 = .ok (.getfield 90, 3) := by decide +kernel
theorem dX12_nights_4 : decode cX12_nights 4 = .ok (.aload_n 0, 1) := by decide +kernel
theorem dX12_nights_5 : decode cX12_nights 5 = .ok (.getfield 12, 3) := by decide +kernel
theorem dX12_nights_8 : decode cX12_nights 8 = .ok (.aload_n 0, 1) := by decide +kernel
theorem dX12_nights_9 : decode cX12_nights 9 = .ok (.getfield 76, 3) := by decide +kernel
theorem dX12_nights_12 : decode cX12_nights 12 = .ok (.invokevirtual 127, 3) := by decide +kernel
theorem dX12_nights_15 : decode cX12_nights 15 = .ok (.istore_n 1, 1) := by decide +kernel
theorem dX12_nights_16 : decode cX12_nights 16 = .ok (.iload_n 1, 1) := by decide +kernel
theorem dX12_nights_17 : decode cX12_nights 17 = .ok (.ifCond .ne 21, 3) := by decide +kernel
theorem dX12_nights_20 : decode cX12_nights 20 = .ok (.aload_n 0, 1) := by decide +kernel
theorem dX12_nights_21 : decode cX12_nights 21 = .ok (.getfield 86, 3) := by decide +kernel
theorem dX12_nights_24 : decode cX12_nights 24 = .ok (.astore_n 2, 1) := by decide +kernel
theorem dX12_nights_25 : decode cX12_nights 25 = .ok (.aload_n 0, 1) := by decide +kernel
theorem dX12_nights_26 : decode cX12_nights 26 = .ok (.aload_n 0, 1) := by decide +kernel
theorem dX12_nights_27 : decode cX12_nights 27 = .ok (.getfield 90, 3) := by decide +kernel
theorem dX12_nights_30 : decode cX12_nights 30 = .ok (.putfield 86, 3) := by decide +kernel
theorem dX12_nights_33 : decode cX12_nights 33 = .ok (.aload_n 0, 1) := by decide +kernel
theorem dX12_nights_34 : decode cX12_nights 34 = .ok (.aload_n 2, 1) := by decide +kernel
theorem dX12_nights_35 : decode cX12_nights 35 = .ok (.putfield 90, 3) := by decide +kernel
theorem dX12_nights_38 : decode cX12_nights 38 = .ok (.iload_n 1, 1) := by decide +kernel
theorem dX12_nights_39 : decode cX12_nights 39 = .ok (.ireturn, 1) := by decide +kernel
theorem dX12_piece_0 : decode cX12_piece 0 = .ok (.aload_n 0, 1) := by decide +kernel
theorem dX12_piece_1 : decode cX12_piece 1 = .ok (.getfield 28, 3) := by decide +kernel
theorem dX12_piece_4 : decode cX12_piece 4 = .ok (.iload_n 1, 1) := by decide +kernel
theorem dX12_piece_5 : decode cX12_piece 5 = .ok (.invokevirtual 130, 3) := by decide +kernel
theorem dX12_piece_8 : decode cX12_piece 8 = .ok (.ifCond .ne 5, 3) := by decide +kernel
theorem dX12_piece_11 : decode cX12_piece 11 = .ok (.iconst (-1), 1) := by decide +kernel
theorem dX12_piece_12 : decode cX12_piece 12 = .ok (.ireturn, 1) := by decide +kernel
theorem dX12_piece_13 : decode cX12_piece 13 = .ok (.iload_n 2, 1) := by decide +kernel
theorem dX12_piece_14 : decode cX12_piece 14 = .ok (.tableswitch 87 0 4 #[34, 44, 54, 64, 74], 34) := by decide +kernel
theorem dX12_piece_48 : decode cX12_piece 48 = .ok (.aload_n 0, 1) := by decide +kernel
theorem dX12_piece_49 : decode cX12_piece 49 = .ok (.getfield 28, 3) := by decide +kernel
theorem dX12_piece_52 : decode cX12_piece 52 = .ok (.getfield 134, 3) := by decide +kernel
theorem dX12_piece_55 : decode cX12_piece 55 = .ok (.iload_n 1, 1) := by decide +kernel
theorem dX12_piece_56 : decode cX12_piece 56 = .ok (.iaload, 1) := by decide +kernel
theorem dX12_piece_57 : decode cX12_piece 57 = .ok (.ireturn, 1) := by decide +kernel
theorem dX12_piece_58 : decode cX12_piece 58 = .ok (.aload_n 0, 1) := by decide +kernel
theorem dX12_piece_59 : decode cX12_piece 59 = .ok (.getfield 28, 3) := by decide +kernel
theorem dX12_piece_62 : decode cX12_piece 62 = .ok (.getfield 137, 3) := by decide +kernel
theorem dX12_piece_65 : decode cX12_piece 65 = .ok (.iload_n 1, 1) := by decide +kernel
theorem dX12_piece_66 : decode cX12_piece 66 = .ok (.iaload, 1) := by decide +kernel
theorem dX12_piece_67 : decode cX12_piece 67 = .ok (.ireturn, 1) := by decide +kernel
theorem dX12_piece_68 : decode cX12_piece 68 = .ok (.aload_n 0, 1) := by decide +kernel
theorem dX12_piece_69 : decode cX12_piece 69 = .ok (.getfield 28, 3) := by decide +kernel
theorem dX12_piece_72 : decode cX12_piece 72 = .ok (.getfield 140, 3) := by decide +kernel
theorem dX12_piece_75 : decode cX12_piece 75 = .ok (.iload_n 1, 1) := by decide +kernel
theorem dX12_piece_76 : decode cX12_piece 76 = .ok (.iaload, 1) := by decide +kernel
theorem dX12_piece_77 : decode cX12_piece 77 = .ok (.ireturn, 1) := by decide +kernel
theorem dX12_piece_78 : decode cX12_piece 78 = .ok (.aload_n 0, 1) := by decide +kernel
theorem dX12_piece_79 : decode cX12_piece 79 = .ok (.getfield 28, 3) := by decide +kernel
theorem dX12_piece_82 : decode cX12_piece 82 = .ok (.getfield 143, 3) := by decide +kernel
theorem dX12_piece_85 : decode cX12_piece 85 = .ok (.iload_n 1, 1) := by decide +kernel
theorem dX12_piece_86 : decode cX12_piece 86 = .ok (.iaload, 1) := by decide +kernel
theorem dX12_piece_87 : decode cX12_piece 87 = .ok (.ireturn, 1) := by decide +kernel
theorem dX12_piece_88 : decode cX12_piece 88 = .ok (.aload_n 0, 1) := by decide +kernel
theorem dX12_piece_89 : decode cX12_piece 89 = .ok (.getfield 28, 3) := by decide +kernel
theorem dX12_piece_92 : decode cX12_piece 92 = .ok (.aload_n 0, 1) := by decide +kernel
theorem dX12_piece_93 : decode cX12_piece 93 = .ok (.getfield 76, 3) := by decide +kernel
theorem dX12_piece_96 : decode cX12_piece 96 = .ok (.iload_n 1, 1) := by decide +kernel
theorem dX12_piece_97 : decode cX12_piece 97 = .ok (.invokevirtual 146, 3) := by decide +kernel
theorem dX12_piece_100 : decode cX12_piece 100 = .ok (.ireturn, 1) := by decide +kernel
theorem dX12_piece_101 : decode cX12_piece 101 = .ok (.iconst (-1), 1) := by decide +kernel
theorem dX12_piece_102 : decode cX12_piece 102 = .ok (.ireturn, 1) := by decide +kernel
theorem dX12_distance_0 : decode cX12_distance 0 = .ok (.aload_n 0, 1) := by decide +kernel
theorem dX12_distance_1 : decode cX12_distance 1 = .ok (.getfield 28, 3) := by decide +kernel
theorem dX12_distance_4 : decode cX12_distance 4 = .ok (.iload_n 1, 1) := by decide +kernel
theorem dX12_distance_5 : decode cX12_distance 5 = .ok (.invokevirtual 130, 3) := by decide +kernel
theorem dX12_distance_8 : decode cX12_distance 8 = .ok (.ifCond .eq 26, 3) := by decide +kernel
theorem dX12_distance_11 : decode cX12_distance 11 = .ok (.aload_n 0, 1) := by decide +kernel
theorem dX12_distance_12 : decode cX12_distance 12 = .ok (.getfield 28, 3) := by decide +kernel
theorem dX12_distance_15 : decode cX12_distance 15 = .ok (.iload_n 2, 1) := by decide +kernel
theorem dX12_distance_16 : decode cX12_distance 16 = .ok (.invokevirtual 130, 3) := by decide +kernel
theorem dX12_distance_19 : decode cX12_distance 19 = .ok (.ifCond .eq 15, 3) := by decide +kernel
theorem dX12_distance_22 : decode cX12_distance 22 = .ok (.aload_n 0, 1) := by decide +kernel
theorem dX12_distance_23 : decode cX12_distance 23 = .ok (.getfield 28, 3) := by decide +kernel
theorem dX12_distance_26 : decode cX12_distance 26 = .ok (.iload_n 1, 1) := by decide +kernel
theorem dX12_distance_27 : decode cX12_distance 27 = .ok (.iload_n 2, 1) := by decide +kernel
theorem dX12_distance_28 : decode cX12_distance 28 = .ok (.invokevirtual 150, 3) := by decide +kernel
theorem dX12_distance_31 : decode cX12_distance 31 = .ok (.goto 4, 3) := by decide +kernel
theorem dX12_distance_34 : decode cX12_distance 34 = .ok (.iconst (-1), 1) := by decide +kernel
theorem dX12_distance_35 : decode cX12_distance 35 = .ok (.ireturn, 1) := by decide +kernel
theorem dX12_thief_0 : decode cX12_thief 0 = .ok (.aload_n 0, 1) := by decide +kernel
theorem dX12_thief_1 : decode cX12_thief 1 = .ok (.getfield 76, 3) := by decide +kernel
theorem dX12_thief_4 : decode cX12_thief 4 = .ok (.iload_n 1, 1) := by decide +kernel
theorem dX12_thief_5 : decode cX12_thief 5 = .ok (.invokevirtual 154, 3) := by decide +kernel
theorem dX12_thief_8 : decode cX12_thief 8 = .ok (.ifCond .ne 5, 3) := by decide +kernel
theorem dX12_thief_11 : decode cX12_thief 11 = .ok (.iconst (-1), 1) := by decide +kernel
theorem dX12_thief_12 : decode cX12_thief 12 = .ok (.ireturn, 1) := by decide +kernel
theorem dX12_thief_13 : decode cX12_thief 13 = .ok (.iload_n 2, 1) := by decide +kernel
theorem dX12_thief_14 : decode cX12_thief 14 = .ok (.tableswitch 83 0 4 #[34, 44, 54, 64, 74], 34) := by decide +kernel
theorem dX12_thief_48 : decode cX12_thief 48 = .ok (.aload_n 0, 1) := by decide +kernel
theorem dX12_thief_49 : decode cX12_thief 49 = .ok (.getfield 76, 3) := by decide +kernel
theorem dX12_thief_52 : decode cX12_thief 52 = .ok (.getfield 157, 3) := by decide +kernel
theorem dX12_thief_55 : decode cX12_thief 55 = .ok (.iload_n 1, 1) := by decide +kernel
theorem dX12_thief_56 : decode cX12_thief 56 = .ok (.iaload, 1) := by decide +kernel
theorem dX12_thief_57 : decode cX12_thief 57 = .ok (.ireturn, 1) := by decide +kernel
theorem dX12_thief_58 : decode cX12_thief 58 = .ok (.aload_n 0, 1) := by decide +kernel
theorem dX12_thief_59 : decode cX12_thief 59 = .ok (.getfield 76, 3) := by decide +kernel
theorem dX12_thief_62 : decode cX12_thief 62 = .ok (.getfield 160, 3) := by decide +kernel
theorem dX12_thief_65 : decode cX12_thief 65 = .ok (.iload_n 1, 1) := by decide +kernel
theorem dX12_thief_66 : decode cX12_thief 66 = .ok (.iaload, 1) := by decide +kernel
theorem dX12_thief_67 : decode cX12_thief 67 = .ok (.ireturn, 1) := by decide +kernel
theorem dX12_thief_68 : decode cX12_thief 68 = .ok (.aload_n 0, 1) := by decide +kernel
theorem dX12_thief_69 : decode cX12_thief 69 = .ok (.getfield 28, 3) := by decide +kernel
theorem dX12_thief_72 : decode cX12_thief 72 = .ok (.getfield 163, 3) := by decide +kernel
theorem dX12_thief_75 : decode cX12_thief 75 = .ok (.iload_n 1, 1) := by decide +kernel
theorem dX12_thief_76 : decode cX12_thief 76 = .ok (.iaload, 1) := by decide +kernel
theorem dX12_thief_77 : decode cX12_thief 77 = .ok (.ireturn, 1) := by decide +kernel
theorem dX12_thief_78 : decode cX12_thief 78 = .ok (.aload_n 0, 1) := by decide +kernel
theorem dX12_thief_79 : decode cX12_thief 79 = .ok (.getfield 76, 3) := by decide +kernel
theorem dX12_thief_82 : decode cX12_thief 82 = .ok (.getfield 166, 3) := by decide +kernel
theorem dX12_thief_85 : decode cX12_thief 85 = .ok (.iload_n 1, 1) := by decide +kernel
theorem dX12_thief_86 : decode cX12_thief 86 = .ok (.iaload, 1) := by decide +kernel
theorem dX12_thief_87 : decode cX12_thief 87 = .ok (.ireturn, 1) := by decide +kernel
theorem dX12_thief_88 : decode cX12_thief 88 = .ok (.aload_n 0, 1) := by decide +kernel
theorem dX12_thief_89 : decode cX12_thief 89 = .ok (.getfield 28, 3) := by decide +kernel
theorem dX12_thief_92 : decode cX12_thief 92 = .ok (.iload_n 1, 1) := by decide +kernel
theorem dX12_thief_93 : decode cX12_thief 93 = .ok (.invokevirtual 169, 3) := by decide +kernel
theorem dX12_thief_96 : decode cX12_thief 96 = .ok (.ireturn, 1) := by decide +kernel
theorem dX12_thief_97 : decode cX12_thief 97 = .ok (.iconst (-1), 1) := by decide +kernel
theorem dX12_thief_98 : decode cX12_thief 98 = .ok (.ireturn, 1) := by decide +kernel
theorem dX12_count_0 : decode cX12_count 0 = .ok (.iload_n 1, 1) := by decide +kernel
theorem dX12_count_1 : decode cX12_count 1 = .ok (.tableswitch 156 0 11 #[63, 71, 79, 87, 95, 103, 111, 119, 127, 135, 143, 148], 63) := by decide +kernel
theorem dX12_count_64 : decode cX12_count 64 = .ok (.aload_n 0, 1) := by decide +kernel
theorem dX12_count_65 : decode cX12_count 65 = .ok (.getfield 76, 3) := by decide +kernel
theorem dX12_count_68 : decode cX12_count 68 = .ok (.getfield 173, 3) := by decide +kernel
theorem dX12_count_71 : decode cX12_count 71 = .ok (.ireturn, 1) := by decide +kernel
theorem dX12_count_72 : decode cX12_count 72 = .ok (.aload_n 0, 1) := by decide +kernel
theorem dX12_count_73 : decode cX12_count 73 = .ok (.getfield 28, 3) := by decide +kernel
theorem dX12_count_76 : decode cX12_count 76 = .ok (.getfield 176, 3) := by decide +kernel
theorem dX12_count_79 : decode cX12_count 79 = .ok (.ireturn, 1) := by decide +kernel
theorem dX12_count_80 : decode cX12_count 80 = .ok (.aload_n 0, 1) := by decide +kernel
theorem dX12_count_81 : decode cX12_count 81 = .ok (.getfield 76, 3) := by decide +kernel
theorem dX12_count_84 : decode cX12_count 84 = .ok (.getfield 179, 3) := by decide +kernel
theorem dX12_count_87 : decode cX12_count 87 = .ok (.ireturn, 1) := by decide +kernel
theorem dX12_count_88 : decode cX12_count 88 = .ok (.aload_n 0, 1) := by decide +kernel
theorem dX12_count_89 : decode cX12_count 89 = .ok (.getfield 76, 3) := by decide +kernel
theorem dX12_count_92 : decode cX12_count 92 = .ok (.getfield 182, 3) := by decide +kernel
theorem dX12_count_95 : decode cX12_count 95 = .ok (.ireturn, 1) := by decide +kernel
theorem dX12_count_96 : decode cX12_count 96 = .ok (.aload_n 0, 1) := by decide +kernel
theorem dX12_count_97 : decode cX12_count 97 = .ok (.getfield 28, 3) := by decide +kernel
theorem dX12_count_100 : decode cX12_count 100 = .ok (.getfield 185, 3) := by decide +kernel
theorem dX12_count_103 : decode cX12_count 103 = .ok (.ireturn, 1) := by decide +kernel
theorem dX12_count_104 : decode cX12_count 104 = .ok (.aload_n 0, 1) := by decide +kernel
theorem dX12_count_105 : decode cX12_count 105 = .ok (.getfield 28, 3) := by decide +kernel
theorem dX12_count_108 : decode cX12_count 108 = .ok (.getfield 188, 3) := by decide +kernel
theorem dX12_count_111 : decode cX12_count 111 = .ok (.ireturn, 1) := by decide +kernel
theorem dX12_count_112 : decode cX12_count 112 = .ok (.aload_n 0, 1) := by decide +kernel
theorem dX12_count_113 : decode cX12_count 113 = .ok (.getfield 28, 3) := by decide +kernel
theorem dX12_count_116 : decode cX12_count 116 = .ok (.invokevirtual 191, 3) := by decide +kernel
theorem dX12_count_119 : decode cX12_count 119 = .ok (.ireturn, 1) := by decide +kernel
theorem dX12_count_120 : decode cX12_count 120 = .ok (.aload_n 0, 1) := by decide +kernel
theorem dX12_count_121 : decode cX12_count 121 = .ok (.getfield 28, 3) := by decide +kernel
theorem dX12_count_124 : decode cX12_count 124 = .ok (.getfield 195, 3) := by decide +kernel
theorem dX12_count_127 : decode cX12_count 127 = .ok (.ireturn, 1) := by decide +kernel
theorem dX12_count_128 : decode cX12_count 128 = .ok (.aload_n 0, 1) := by decide +kernel
theorem dX12_count_129 : decode cX12_count 129 = .ok (.getfield 86, 3) := by decide +kernel
theorem dX12_count_132 : decode cX12_count 132 = .ok (.getfield 124, 3) := by decide +kernel
theorem dX12_count_135 : decode cX12_count 135 = .ok (.ireturn, 1) := by decide +kernel
theorem dX12_count_136 : decode cX12_count 136 = .ok (.aload_n 0, 1) := by decide +kernel
theorem dX12_count_137 : decode cX12_count 137 = .ok (.getfield 28, 3) := by decide +kernel
theorem dX12_count_140 : decode cX12_count 140 = .ok (.getfield 198, 3) := by decide +kernel
theorem dX12_count_143 : decode cX12_count 143 = .ok (.ireturn, 1) := by decide +kernel
theorem dX12_count_144 : decode cX12_count 144 = .ok (.aload_n 0, 1) := by decide +kernel
theorem dX12_count_145 : decode cX12_count 145 = .ok (.getfield 97, 3) := by decide +kernel
theorem dX12_count_148 : decode cX12_count 148 = .ok (.ireturn, 1) := by decide +kernel
theorem dX12_count_149 : decode cX12_count 149 = .ok (.aload_n 0, 1) := by decide +kernel
theorem dX12_count_150 : decode cX12_count 150 = .ok (.getfield 12, 3) := by decide +kernel
theorem dX12_count_153 : decode cX12_count 153 = .ok (.getfield 107, 3) := by decide +kernel
theorem dX12_count_156 : decode cX12_count 156 = .ok (.ireturn, 1) := by decide +kernel
theorem dX12_count_157 : decode cX12_count 157 = .ok (.iconst (-1), 1) := by decide +kernel
theorem dX12_count_158 : decode cX12_count 158 = .ok (.ireturn, 1) := by decide +kernel
theorem dX12_steal_0 : decode cX12_steal 0 = .ok (.aload_n 0, 1) := by decide +kernel
theorem dX12_steal_1 : decode cX12_steal 1 = .ok (.invokevirtual 201, 3) := by decide +kernel
theorem dX12_steal_4 : decode cX12_steal 4 = .ok (.aload_n 0, 1) := by decide +kernel
theorem dX12_steal_5 : decode cX12_steal 5 = .ok (.aload_n 0, 1) := by decide +kernel
theorem dX12_steal_6 : decode cX12_steal 6 = .ok (.getfield 28, 3) := by decide +kernel
theorem dX12_steal_9 : decode cX12_steal 9 = .ok (.aload_n 0, 1) := by decide +kernel
theorem dX12_steal_10 : decode cX12_steal 10 = .ok (.getfield 76, 3) := by decide +kernel
theorem dX12_steal_13 : decode cX12_steal 13 = .ok (.iload_n 1, 1) := by decide +kernel
theorem dX12_steal_14 : decode cX12_steal 14 = .ok (.iload_n 2, 1) := by decide +kernel
theorem dX12_steal_15 : decode cX12_steal 15 = .ok (.invokevirtual 204, 3) := by decide +kernel
theorem dX12_steal_18 : decode cX12_steal 18 = .ok (.invokevirtual 208, 3) := by decide +kernel
theorem dX12_steal_21 : decode cX12_steal 21 = .ok (.ireturn, 1) := by decide +kernel
theorem dX12_paint_0 : decode cX12_paint 0 = .ok (.aload_n 0, 1) := by decide +kernel
theorem dX12_paint_1 : decode cX12_paint 1 = .ok (.invokevirtual 201, 3) := by decide +kernel
theorem dX12_paint_4 : decode cX12_paint 4 = .ok (.aload_n 0, 1) := by decide +kernel
theorem dX12_paint_5 : decode cX12_paint 5 = .ok (.aload_n 0, 1) := by decide +kernel
theorem dX12_paint_6 : decode cX12_paint 6 = .ok (.getfield 28, 3) := by decide +kernel
theorem dX12_paint_9 : decode cX12_paint 9 = .ok (.aload_n 0, 1) := by decide +kernel
theorem dX12_paint_10 : decode cX12_paint 10 = .ok (.getfield 76, 3) := by decide +kernel
theorem dX12_paint_13 : decode cX12_paint 13 = .ok (.iload_n 1, 1) := by decide +kernel
theorem dX12_paint_14 : decode cX12_paint 14 = .ok (.iload_n 2, 1) := by decide +kernel
theorem dX12_paint_15 : decode cX12_paint 15 = .ok (.iload_n 3, 1) := by decide +kernel
theorem dX12_paint_16 : decode cX12_paint 16 = .ok (.invokevirtual 211, 3) := by decide +kernel
theorem dX12_paint_19 : decode cX12_paint 19 = .ok (.invokevirtual 208, 3) := by decide +kernel
theorem dX12_paint_22 : decode cX12_paint 22 = .ok (.ireturn, 1) := by decide +kernel
theorem dX12_sell_0 : decode cX12_sell 0 = .ok (.aload_n 0, 1) := by decide +kernel
theorem dX12_sell_1 : decode cX12_sell 1 = .ok (.invokevirtual 201, 3) := by decide +kernel
theorem dX12_sell_4 : decode cX12_sell 4 = .ok (.aload_n 0, 1) := by decide +kernel
theorem dX12_sell_5 : decode cX12_sell 5 = .ok (.aload_n 0, 1) := by decide +kernel
theorem dX12_sell_6 : decode cX12_sell 6 = .ok (.getfield 28, 3) := by decide +kernel
theorem dX12_sell_9 : decode cX12_sell 9 = .ok (.aload_n 0, 1) := by decide +kernel
theorem dX12_sell_10 : decode cX12_sell 10 = .ok (.getfield 76, 3) := by decide +kernel
theorem dX12_sell_13 : decode cX12_sell 13 = .ok (.iload_n 1, 1) := by decide +kernel
theorem dX12_sell_14 : decode cX12_sell 14 = .ok (.iload_n 2, 1) := by decide +kernel
theorem dX12_sell_15 : decode cX12_sell 15 = .ok (.invokevirtual 215, 3) := by decide +kernel
theorem dX12_sell_18 : decode cX12_sell 18 = .ok (.invokevirtual 208, 3) := by decide +kernel
theorem dX12_sell_21 : decode cX12_sell 21 = .ok (.ireturn, 1) := by decide +kernel
theorem dX12_guard_0 : decode cX12_guard 0 = .ok (.aload_n 0, 1) := by decide +kernel
theorem dX12_guard_1 : decode cX12_guard 1 = .ok (.invokevirtual 201, 3) := by decide +kernel
theorem dX12_guard_4 : decode cX12_guard 4 = .ok (.aload_n 0, 1) := by decide +kernel
theorem dX12_guard_5 : decode cX12_guard 5 = .ok (.getfield 28, 3) := by decide +kernel
theorem dX12_guard_8 : decode cX12_guard 8 = .ok (.iload_n 1, 1) := by decide +kernel
theorem dX12_guard_9 : decode cX12_guard 9 = .ok (.invokevirtual 218, 3) := by decide +kernel
theorem dX12_guard_12 : decode cX12_guard 12 = .ok (.istore_n 2, 1) := by decide +kernel
theorem dX12_guard_13 : decode cX12_guard 13 = .ok (.iload_n 2, 1) := by decide +kernel
theorem dX12_guard_14 : decode cX12_guard 14 = .ok (.ifCond .eq 7, 3) := by decide +kernel
theorem dX12_guard_17 : decode cX12_guard 17 = .ok (.aload_n 0, 1) := by decide +kernel
theorem dX12_guard_18 : decode cX12_guard 18 = .ok (.invokevirtual 221, 3) := by decide +kernel
theorem dX12_guard_21 : decode cX12_guard 21 = .ok (.iload_n 2, 1) := by decide +kernel
theorem dX12_guard_22 : decode cX12_guard 22 = .ok (.ireturn, 1) := by decide +kernel
theorem dX12_night_0 : decode cX12_night 0 = .ok (.aload_n 0, 1) := by decide +kernel
theorem dX12_night_1 : decode cX12_night 1 = .ok (.invokevirtual 201, 3) := by decide +kernel
theorem dX12_night_4 : decode cX12_night 4 = .ok (.aload_n 0, 1) := by decide +kernel
theorem dX12_night_5 : decode cX12_night 5 = .ok (.invokevirtual 221, 3) := by decide +kernel
theorem dX12_night_8 : decode cX12_night 8 = .ok (.aload_n 0, 1) := by decide +kernel
theorem dX12_night_9 : decode cX12_night 9 = .ok (.getfield 28, 3) := by decide +kernel
theorem dX12_night_12 : decode cX12_night 12 = .ok (.invokevirtual 224, 3) := by decide +kernel
theorem dX12_night_15 : decode cX12_night 15 = .ok (.aload_n 0, 1) := by decide +kernel
theorem dX12_night_16 : decode cX12_night 16 = .ok (.getfield 28, 3) := by decide +kernel
theorem dX12_night_19 : decode cX12_night 19 = .ok (.getfield 185, 3) := by decide +kernel
theorem dX12_night_22 : decode cX12_night 22 = .ok (.ireturn, 1) := by decide +kernel
theorem dX12_undo_0 : decode cX12_undo 0 = .ok (.aload_n 0, 1) := by decide +kernel
theorem dX12_undo_1 : decode cX12_undo 1 = .ok (.getfield 97, 3) := by decide +kernel
theorem dX12_undo_4 : decode cX12_undo 4 = .ok (.ifCond .gt 5, 3) := by decide +kernel
theorem dX12_undo_7 : decode cX12_undo 7 = .ok (.iconst 0, 1) := by decide +kernel
theorem dX12_undo_8 : decode cX12_undo 8 = .ok (.ireturn, 1) := by decide +kernel
theorem dX12_undo_9 : decode cX12_undo 9 = .ok (.aload_n 0, 1) := by decide +kernel
theorem dX12_undo_10 : decode cX12_undo 10 = .ok (.dup, 1) := by decide +kernel
theorem dX12_undo_11 : decode cX12_undo 11 = .ok (.getfield 97, 3) := by decide +kernel
theorem dX12_undo_14 : decode cX12_undo 14 = .ok (.iconst 1, 1) := by decide +kernel
theorem dX12_undo_15 : decode cX12_undo 15 = .ok (.isub, 1) := by decide +kernel
theorem dX12_undo_16 : decode cX12_undo 16 = .ok (.putfield 97, 3) := by decide +kernel
theorem dX12_undo_19 : decode cX12_undo 19 = .ok (.aload_n 0, 1) := by decide +kernel
theorem dX12_undo_20 : decode cX12_undo 20 = .ok (.getfield 28, 3) := by decide +kernel
theorem dX12_undo_23 : decode cX12_undo 23 = .ok (.aload_n 0, 1) := by decide +kernel
theorem dX12_undo_24 : decode cX12_undo 24 = .ok (.getfield 35, 3) := by decide +kernel
theorem dX12_undo_27 : decode cX12_undo 27 = .ok (.aload_n 0, 1) := by decide +kernel
theorem dX12_undo_28 : decode cX12_undo 28 = .ok (.aload_n 0, 1) := by decide +kernel
theorem dX12_undo_29 : decode cX12_undo 29 = .ok (.getfield 97, 3) := by decide +kernel
theorem dX12_undo_32 : decode cX12_undo 32 = .ok (.invokevirtual 227, 3) := by decide +kernel
theorem dX12_undo_35 : decode cX12_undo 35 = .ok (.aaload, 1) := by decide +kernel
theorem dX12_undo_36 : decode cX12_undo 36 = .ok (.invokevirtual 230, 3) := by decide +kernel
theorem dX12_undo_39 : decode cX12_undo 39 = .ok (.iconst 1, 1) := by decide +kernel
theorem dX12_undo_40 : decode cX12_undo 40 = .ok (.ireturn, 1) := by decide +kernel
theorem dX12_pastRow_0 : decode cX12_pastRow 0 = .ok (.aload_n 0, 1) := by decide +kernel
theorem dX12_pastRow_1 : decode cX12_pastRow 1 = .ok (.getfield 93, 3) := by decide +kernel
theorem dX12_pastRow_4 : decode cX12_pastRow 4 = .ok (.iload_n 1, 1) := by decide +kernel
theorem dX12_pastRow_5 : decode cX12_pastRow 5 = .ok (.iadd, 1) := by decide +kernel
theorem dX12_pastRow_6 : decode cX12_pastRow 6 = .ok (.bipush 17, 2) := by decide +kernel
theorem dX12_pastRow_8 : decode cX12_pastRow 8 = .ok (.irem, 1) := by decide +kernel
theorem dX12_pastRow_9 : decode cX12_pastRow 9 = .ok (.ireturn, 1) := by decide +kernel
theorem dX12_noteNow_0 : decode cX12_noteNow 0 = .ok (.aload_n 0, 1) := by decide +kernel
theorem dX12_noteNow_1 : decode cX12_noteNow 1 = .ok (.getfield 35, 3) := by decide +kernel
theorem dX12_noteNow_4 : decode cX12_noteNow 4 = .ok (.aload_n 0, 1) := by decide +kernel
theorem dX12_noteNow_5 : decode cX12_noteNow 5 = .ok (.aload_n 0, 1) := by decide +kernel
theorem dX12_noteNow_6 : decode cX12_noteNow 6 = .ok (.getfield 97, 3) := by decide +kernel
theorem dX12_noteNow_9 : decode cX12_noteNow 9 = .ok (.invokevirtual 227, 3) := by decide +kernel
theorem dX12_noteNow_12 : decode cX12_noteNow 12 = .ok (.aaload, 1) := by decide +kernel
theorem dX12_noteNow_13 : decode cX12_noteNow 13 = .ok (.aload_n 0, 1) := by decide +kernel
theorem dX12_noteNow_14 : decode cX12_noteNow 14 = .ok (.getfield 28, 3) := by decide +kernel
theorem dX12_noteNow_17 : decode cX12_noteNow 17 = .ok (.invokevirtual 230, 3) := by decide +kernel
theorem dX12_noteNow_20 : decode cX12_noteNow 20 = .ok (.return_, 1) := by decide +kernel
theorem dX12_keepNoted_0 : decode cX12_keepNoted 0 = .ok (.aload_n 0, 1) := by decide +kernel
theorem dX12_keepNoted_1 : decode cX12_keepNoted 1 = .ok (.getfield 97, 3) := by decide +kernel
theorem dX12_keepNoted_4 : decode cX12_keepNoted 4 = .ok (.bipush 16, 2) := by decide +kernel
theorem dX12_keepNoted_6 : decode cX12_keepNoted 6 = .ok (.if_icmp .ge 16, 3) := by decide +kernel
theorem dX12_keepNoted_9 : decode cX12_keepNoted 9 = .ok (.aload_n 0, 1) := by decide +kernel
theorem dX12_keepNoted_10 : decode cX12_keepNoted 10 = .ok (.dup, 1) := by decide +kernel
theorem dX12_keepNoted_11 : decode cX12_keepNoted 11 = .ok (.getfield 97, 3) := by decide +kernel
theorem dX12_keepNoted_14 : decode cX12_keepNoted 14 = .ok (.iconst 1, 1) := by decide +kernel
theorem dX12_keepNoted_15 : decode cX12_keepNoted 15 = .ok (.iadd, 1) := by decide +kernel
theorem dX12_keepNoted_16 : decode cX12_keepNoted 16 = .ok (.putfield 97, 3) := by decide +kernel
theorem dX12_keepNoted_19 : decode cX12_keepNoted 19 = .ok (.goto 12, 3) := by decide +kernel
theorem dX12_keepNoted_22 : decode cX12_keepNoted 22 = .ok (.aload_n 0, 1) := by decide +kernel
theorem dX12_keepNoted_23 : decode cX12_keepNoted 23 = .ok (.aload_n 0, 1) := by decide +kernel
theorem dX12_keepNoted_24 : decode cX12_keepNoted 24 = .ok (.iconst 1, 1) := by decide +kernel
theorem dX12_keepNoted_25 : decode cX12_keepNoted 25 = .ok (.invokevirtual 227, 3) := by decide +kernel
theorem dX12_keepNoted_28 : decode cX12_keepNoted 28 = .ok (.putfield 93, 3) := by decide +kernel
theorem dX12_keepNoted_31 : decode cX12_keepNoted 31 = .ok (.return_, 1) := by decide +kernel
theorem dX12_keptUnlessNone_0 : decode cX12_keptUnlessNone 0 = .ok (.iload_n 1, 1) := by decide +kernel
theorem dX12_keptUnlessNone_1 : decode cX12_keptUnlessNone 1 = .ok (.iconst (-1), 1) := by decide +kernel
theorem dX12_keptUnlessNone_2 : decode cX12_keptUnlessNone 2 = .ok (.if_icmp .eq 7, 3) := by decide +kernel
theorem dX12_keptUnlessNone_5 : decode cX12_keptUnlessNone 5 = .ok (.aload_n 0, 1) := by decide +kernel
theorem dX12_keptUnlessNone_6 : decode cX12_keptUnlessNone 6 = .ok (.invokevirtual 221, 3) := by decide +kernel
theorem dX12_keptUnlessNone_9 : decode cX12_keptUnlessNone 9 = .ok (.iload_n 1, 1) := by decide +kernel
theorem dX12_keptUnlessNone_10 : decode cX12_keptUnlessNone 10 = .ok (.ireturn, 1) := by decide +kernel
theorem dX12_mark_0 : decode cX12_mark 0 = .ok (.iload_n 1, 1) := by decide +kernel
theorem dX12_mark_1 : decode cX12_mark 1 = .ok (.ifCond .lt 8, 3) := by decide +kernel
theorem dX12_mark_4 : decode cX12_mark 4 = .ok (.iload_n 1, 1) := by decide +kernel
theorem dX12_mark_5 : decode cX12_mark 5 = .ok (.iconst 4, 1) := by decide +kernel
theorem dX12_mark_6 : decode cX12_mark 6 = .ok (.if_icmp .lt 5, 3) := by decide +kernel
theorem dX12_mark_9 : decode cX12_mark 9 = .ok (.iconst 0, 1) := by decide +kernel
theorem dX12_mark_10 : decode cX12_mark 10 = .ok (.ireturn, 1) := by decide +kernel
theorem dX12_mark_11 : decode cX12_mark 11 = .ok (.iload_n 2, 1) := by decide +kernel
theorem dX12_mark_12 : decode cX12_mark 12 = .ok (.ifCond .ne 30, 3) := by decide +kernel
theorem dX12_mark_15 : decode cX12_mark 15 = .ok (.aload_n 0, 1) := by decide +kernel
theorem dX12_mark_16 : decode cX12_mark 16 = .ok (.getfield 39, 3) := by decide +kernel
theorem dX12_mark_19 : decode cX12_mark 19 = .ok (.iload_n 1, 1) := by decide +kernel
theorem dX12_mark_20 : decode cX12_mark 20 = .ok (.aaload, 1) := by decide +kernel
theorem dX12_mark_21 : decode cX12_mark 21 = .ok (.aload_n 0, 1) := by decide +kernel
theorem dX12_mark_22 : decode cX12_mark 22 = .ok (.getfield 28, 3) := by decide +kernel
theorem dX12_mark_25 : decode cX12_mark 25 = .ok (.invokevirtual 120, 3) := by decide +kernel
theorem dX12_mark_28 : decode cX12_mark 28 = .ok (.aload_n 0, 1) := by decide +kernel
theorem dX12_mark_29 : decode cX12_mark 29 = .ok (.dup, 1) := by decide +kernel
theorem dX12_mark_30 : decode cX12_mark 30 = .ok (.getfield 100, 3) := by decide +kernel
theorem dX12_mark_33 : decode cX12_mark 33 = .ok (.iconst 1, 1) := by decide +kernel
theorem dX12_mark_34 : decode cX12_mark 34 = .ok (.iload_n 1, 1) := by decide +kernel
theorem dX12_mark_35 : decode cX12_mark 35 = .ok (.ishl, 1) := by decide +kernel
theorem dX12_mark_36 : decode cX12_mark 36 = .ok (.ior, 1) := by decide +kernel
theorem dX12_mark_37 : decode cX12_mark 37 = .ok (.putfield 100, 3) := by decide +kernel
theorem dX12_mark_40 : decode cX12_mark 40 = .ok (.iconst 1, 1) := by decide +kernel
theorem dX12_mark_41 : decode cX12_mark 41 = .ok (.ireturn, 1) := by decide +kernel
theorem dX12_mark_42 : decode cX12_mark 42 = .ok (.aload_n 0, 1) := by decide +kernel
theorem dX12_mark_43 : decode cX12_mark 43 = .ok (.getfield 100, 3) := by decide +kernel
theorem dX12_mark_46 : decode cX12_mark 46 = .ok (.iload_n 1, 1) := by decide +kernel
theorem dX12_mark_47 : decode cX12_mark 47 = .ok (.ishr, 1) := by decide +kernel
theorem dX12_mark_48 : decode cX12_mark 48 = .ok (.iconst 1, 1) := by decide +kernel
theorem dX12_mark_49 : decode cX12_mark 49 = .ok (.iand, 1) := by decide +kernel
theorem dX12_mark_50 : decode cX12_mark 50 = .ok (.ifCond .ne 5, 3) := by decide +kernel
theorem dX12_mark_53 : decode cX12_mark 53 = .ok (.iconst 0, 1) := by decide +kernel
theorem dX12_mark_54 : decode cX12_mark 54 = .ok (.ireturn, 1) := by decide +kernel
theorem dX12_mark_55 : decode cX12_mark 55 = .ok (.aload_n 0, 1) := by decide +kernel
theorem dX12_mark_56 : decode cX12_mark 56 = .ok (.getfield 28, 3) := by decide +kernel
theorem dX12_mark_59 : decode cX12_mark 59 = .ok (.aload_n 0, 1) := by decide +kernel
theorem dX12_mark_60 : decode cX12_mark 60 = .ok (.getfield 39, 3) := by decide +kernel
theorem dX12_mark_63 : decode cX12_mark 63 = .ok (.iload_n 1, 1) := by decide +kernel
theorem dX12_mark_64 : decode cX12_mark 64 = .ok (.aaload, 1) := by decide +kernel
theorem dX12_mark_65 : decode cX12_mark 65 = .ok (.invokevirtual 120, 3) := by decide +kernel
theorem dX12_mark_68 : decode cX12_mark 68 = .ok (.aload_n 0, 1) := by decide +kernel
theorem dX12_mark_69 : decode cX12_mark 69 = .ok (.iconst 0, 1) := by decide +kernel
theorem dX12_mark_70 : decode cX12_mark 70 = .ok (.putfield 97, 3) := by decide +kernel
theorem dX12_mark_73 : decode cX12_mark 73 = .ok (.iconst 1, 1) := by decide +kernel
theorem dX12_mark_74 : decode cX12_mark 74 = .ok (.ireturn, 1) := by decide +kernel
theorem dX12_judged_0 : decode cX12_judged 0 = .ok (.iload_n 1, 1) := by decide +kernel
theorem dX12_judged_1 : decode cX12_judged 1 = .ok (.ifCond .lt 8, 3) := by decide +kernel
theorem dX12_judged_4 : decode cX12_judged 4 = .ok (.iload_n 1, 1) := by decide +kernel
theorem dX12_judged_5 : decode cX12_judged 5 = .ok (.iconst 2, 1) := by decide +kernel
theorem dX12_judged_6 : decode cX12_judged 6 = .ok (.if_icmp .le 6, 3) := by decide +kernel
theorem dX12_judged_9 : decode cX12_judged 9 = .ok (.bipush (-2), 2) := by decide +kernel
theorem dX12_judged_11 : decode cX12_judged 11 = .ok (.ireturn, 1) := by decide +kernel
theorem dX12_judged_12 : decode cX12_judged 12 = .ok (.aload_n 0, 1) := by decide +kernel
theorem dX12_judged_13 : decode cX12_judged 13 = .ok (.getfield 32, 3) := by decide +kernel
theorem dX12_judged_16 : decode cX12_judged 16 = .ok (.aload_n 0, 1) := by decide +kernel
theorem dX12_judged_17 : decode cX12_judged 17 = .ok (.getfield 76, 3) := by decide +kernel
theorem dX12_judged_20 : decode cX12_judged 20 = .ok (.getfield 117, 3) := by decide +kernel
theorem dX12_judged_23 : decode cX12_judged 23 = .ok (.invokevirtual 120, 3) := by decide +kernel
theorem dX12_judged_26 : decode cX12_judged 26 = .ok (.aload_n 0, 1) := by decide +kernel
theorem dX12_judged_27 : decode cX12_judged 27 = .ok (.getfield 86, 3) := by decide +kernel
theorem dX12_judged_30 : decode cX12_judged 30 = .ok (.aload_n 0, 1) := by decide +kernel
theorem dX12_judged_31 : decode cX12_judged 31 = .ok (.getfield 32, 3) := by decide +kernel
theorem dX12_judged_34 : decode cX12_judged 34 = .ok (.aload_n 0, 1) := by decide +kernel
theorem dX12_judged_35 : decode cX12_judged 35 = .ok (.getfield 76, 3) := by decide +kernel
theorem dX12_judged_38 : decode cX12_judged 38 = .ok (.invokevirtual 233, 3) := by decide +kernel
theorem dX12_judged_41 : decode cX12_judged 41 = .ok (.istore_n 2, 1) := by decide +kernel
theorem dX12_judged_42 : decode cX12_judged 42 = .ok (.iload_n 1, 1) := by decide +kernel
theorem dX12_judged_43 : decode cX12_judged 43 = .ok (.ifCond .ne 5, 3) := by decide +kernel
theorem dX12_judged_46 : decode cX12_judged 46 = .ok (.iload_n 2, 1) := by decide +kernel
theorem dX12_judged_47 : decode cX12_judged 47 = .ok (.ireturn, 1) := by decide +kernel
theorem dX12_judged_48 : decode cX12_judged 48 = .ok (.iload_n 1, 1) := by decide +kernel
theorem dX12_judged_49 : decode cX12_judged 49 = .ok (.iconst 1, 1) := by decide +kernel
theorem dX12_judged_50 : decode cX12_judged 50 = .ok (.if_icmp .ne 13, 3) := by decide +kernel
theorem dX12_judged_53 : decode cX12_judged 53 = .ok (.aload_n 0, 1) := by decide +kernel
theorem dX12_judged_54 : decode cX12_judged 54 = .ok (.getfield 32, 3) := by decide +kernel
theorem dX12_judged_57 : decode cX12_judged 57 = .ok (.getfield 188, 3) := by decide +kernel
theorem dX12_judged_60 : decode cX12_judged 60 = .ok (.goto 10, 3) := by decide +kernel
theorem dX12_judged_63 : decode cX12_judged 63 = .ok (.aload_n 0, 1) := by decide +kernel
theorem dX12_judged_64 : decode cX12_judged 64 = .ok (.getfield 32, 3) := by decide +kernel
theorem dX12_judged_67 : decode cX12_judged 67 = .ok (.invokevirtual 191, 3) := by decide +kernel
theorem dX12_judged_70 : decode cX12_judged 70 = .ok (.ireturn, 1) := by decide +kernel
theorem dX12_years_0 : decode cX12_years 0 = .ok (.iload_n 1, 1) := by decide +kernel
theorem dX12_years_1 : decode cX12_years 1 = .ok (.ifCond .lt 25, 3) := by decide +kernel
theorem dX12_years_4 : decode cX12_years 4 = .ok (.iload_n 1, 1) := by decide +kernel
theorem dX12_years_5 : decode cX12_years 5 = .ok (.sipush 9999, 3) := by decide +kernel
theorem dX12_years_8 : decode cX12_years 8 = .ok (.if_icmp .gt 18, 3) := by decide +kernel
theorem dX12_years_11 : decode cX12_years 11 = .ok (.iload_n 2, 1) := by decide +kernel
theorem dX12_years_12 : decode cX12_years 12 = .ok (.iconst 1, 1) := by decide +kernel
theorem dX12_years_13 : decode cX12_years 13 = .ok (.if_icmp .lt 13, 3) := by decide +kernel
theorem dX12_years_16 : decode cX12_years 16 = .ok (.iload_n 2, 1) := by decide +kernel
theorem dX12_years_17 : decode cX12_years 17 = .ok (.bipush 60, 2) := by decide +kernel
theorem dX12_years_19 : decode cX12_years 19 = .ok (.if_icmp .gt 7, 3) := by decide +kernel
theorem dX12_years_22 : decode cX12_years 22 = .ok (.iconst 1, 1) := by decide +kernel
theorem dX12_years_23 : decode cX12_years 23 = .ok (.goto 4, 3) := by decide +kernel
theorem dX12_years_26 : decode cX12_years 26 = .ok (.iconst 0, 1) := by decide +kernel
theorem dX12_years_27 : decode cX12_years 27 = .ok (.istore 4, 2) := by decide +kernel
theorem dX12_years_29 : decode cX12_years 29 = .ok (.iload 4, 2) := by decide +kernel
theorem dX12_years_31 : decode cX12_years 31 = .ok (.ifCond .eq 12, 3) := by decide +kernel
theorem dX12_years_34 : decode cX12_years 34 = .ok (.iload_n 3, 1) := by decide +kernel
theorem dX12_years_35 : decode cX12_years 35 = .ok (.ifCond .lt 8, 3) := by decide +kernel
theorem dX12_years_38 : decode cX12_years 38 = .ok (.iload_n 3, 1) := by decide +kernel
theorem dX12_years_39 : decode cX12_years 39 = .ok (.iconst 2, 1) := by decide +kernel
theorem dX12_years_40 : decode cX12_years 40 = .ok (.if_icmp .le 5, 3) := by decide +kernel
theorem dX12_years_43 : decode cX12_years 43 = .ok (.iconst (-1), 1) := by decide +kernel
theorem dX12_years_44 : decode cX12_years 44 = .ok (.ireturn, 1) := by decide +kernel
theorem dX12_years_45 : decode cX12_years 45 = .ok (.aload_n 0, 1) := by decide +kernel
theorem dX12_years_46 : decode cX12_years 46 = .ok (.getfield 59, 3) := by decide +kernel
theorem dX12_years_49 : decode cX12_years 49 = .ok (.aload_n 0, 1) := by decide +kernel
theorem dX12_years_50 : decode cX12_years 50 = .ok (.getfield 28, 3) := by decide +kernel
theorem dX12_years_53 : decode cX12_years 53 = .ok (.aload_n 0, 1) := by decide +kernel
theorem dX12_years_54 : decode cX12_years 54 = .ok (.getfield 76, 3) := by decide +kernel
theorem dX12_years_57 : decode cX12_years 57 = .ok (.iload_n 1, 1) := by decide +kernel
theorem dX12_years_58 : decode cX12_years 58 = .ok (.iload_n 2, 1) := by decide +kernel
theorem dX12_years_59 : decode cX12_years 59 = .ok (.invokevirtual 237, 3) := by decide +kernel
theorem dX12_years_62 : decode cX12_years 62 = .ok (.iload_n 3, 1) := by decide +kernel
theorem dX12_years_63 : decode cX12_years 63 = .ok (.ifCond .ne 11, 3) := by decide +kernel
theorem dX12_years_66 : decode cX12_years 66 = .ok (.aload_n 0, 1) := by decide +kernel
theorem dX12_years_67 : decode cX12_years 67 = .ok (.getfield 59, 3) := by decide +kernel
theorem dX12_years_70 : decode cX12_years 70 = .ok (.getfield 241, 3) := by decide +kernel
theorem dX12_years_73 : decode cX12_years 73 = .ok (.ireturn, 1) := by decide +kernel
theorem dX12_years_74 : decode cX12_years 74 = .ok (.iload_n 3, 1) := by decide +kernel
theorem dX12_years_75 : decode cX12_years 75 = .ok (.iconst 1, 1) := by decide +kernel
theorem dX12_years_76 : decode cX12_years 76 = .ok (.if_icmp .ne 16, 3) := by decide +kernel
theorem dX12_years_79 : decode cX12_years 79 = .ok (.aload_n 0, 1) := by decide +kernel
theorem dX12_years_80 : decode cX12_years 80 = .ok (.getfield 59, 3) := by decide +kernel
theorem dX12_years_83 : decode cX12_years 83 = .ok (.getfield 244, 3) := by decide +kernel
theorem dX12_years_86 : decode cX12_years 86 = .ok (.invokevirtual 191, 3) := by decide +kernel
theorem dX12_years_89 : decode cX12_years 89 = .ok (.goto 23, 3) := by decide +kernel
theorem dX12_years_92 : decode cX12_years 92 = .ok (.aload_n 0, 1) := by decide +kernel
theorem dX12_years_93 : decode cX12_years 93 = .ok (.getfield 59, 3) := by decide +kernel
theorem dX12_years_96 : decode cX12_years 96 = .ok (.getfield 244, 3) := by decide +kernel
theorem dX12_years_99 : decode cX12_years 99 = .ok (.aload_n 0, 1) := by decide +kernel
theorem dX12_years_100 : decode cX12_years 100 = .ok (.getfield 59, 3) := by decide +kernel
theorem dX12_years_103 : decode cX12_years 103 = .ok (.getfield 244, 3) := by decide +kernel
theorem dX12_years_106 : decode cX12_years 106 = .ok (.getfield 188, 3) := by decide +kernel
theorem dX12_years_109 : decode cX12_years 109 = .ok (.invokevirtual 245, 3) := by decide +kernel
theorem dX12_years_112 : decode cX12_years 112 = .ok (.ireturn, 1) := by decide +kernel
theorem dX12_areThere_0 : decode cX12_areThere 0 = .ok (.iload_n 1, 1) := by decide +kernel
theorem dX12_areThere_1 : decode cX12_areThere 1 = .ok (.ifCond .lt 20, 3) := by decide +kernel
theorem dX12_areThere_4 : decode cX12_areThere 4 = .ok (.iload_n 1, 1) := by decide +kernel
theorem dX12_areThere_5 : decode cX12_areThere 5 = .ok (.iconst 1, 1) := by decide +kernel
theorem dX12_areThere_6 : decode cX12_areThere 6 = .ok (.aload_n 0, 1) := by decide +kernel
theorem dX12_areThere_7 : decode cX12_areThere 7 = .ok (.getfield 28, 3) := by decide +kernel
theorem dX12_areThere_10 : decode cX12_areThere 10 = .ok (.getfield 176, 3) := by decide +kernel
theorem dX12_areThere_13 : decode cX12_areThere 13 = .ok (.ishl, 1) := by decide +kernel
theorem dX12_areThere_14 : decode cX12_areThere 14 = .ok (.if_icmp .ge 7, 3) := by decide +kernel
theorem dX12_areThere_17 : decode cX12_areThere 17 = .ok (.iconst 1, 1) := by decide +kernel
theorem dX12_areThere_18 : decode cX12_areThere 18 = .ok (.goto 4, 3) := by decide +kernel
theorem dX12_areThere_21 : decode cX12_areThere 21 = .ok (.iconst 0, 1) := by decide +kernel
theorem dX12_areThere_22 : decode cX12_areThere 22 = .ok (.ireturn, 1) := by decide +kernel
theorem dX12_tree_0 : decode cX12_tree 0 = .ok (.iload_n 1, 1) := by decide +kernel
theorem dX12_tree_1 : decode cX12_tree 1 = .ok (.invokestatic 248, 3) := by decide +kernel
theorem dX12_tree_4 : decode cX12_tree 4 = .ok (.istore_n 3, 1) := by decide +kernel
theorem dX12_tree_5 : decode cX12_tree 5 = .ok (.aload_n 0, 1) := by decide +kernel
theorem dX12_tree_6 : decode cX12_tree 6 = .ok (.iload_n 1, 1) := by decide +kernel
theorem dX12_tree_7 : decode cX12_tree 7 = .ok (.invokevirtual 253, 3) := by decide +kernel
theorem dX12_tree_10 : decode cX12_tree 10 = .ok (.ifCond .eq 23, 3) := by decide +kernel
theorem dX12_tree_13 : decode cX12_tree 13 = .ok (.iload_n 3, 1) := by decide +kernel
theorem dX12_tree_14 : decode cX12_tree 14 = .ok (.iconst 1, 1) := by decide +kernel
theorem dX12_tree_15 : decode cX12_tree 15 = .ok (.if_icmp .lt 18, 3) := by decide +kernel
theorem dX12_tree_18 : decode cX12_tree 18 = .ok (.iload_n 3, 1) := by decide +kernel
theorem dX12_tree_19 : decode cX12_tree 19 = .ok (.bipush 6, 2) := by decide +kernel
theorem dX12_tree_21 : decode cX12_tree 21 = .ok (.if_icmp .gt 12, 3) := by decide +kernel
theorem dX12_tree_24 : decode cX12_tree 24 = .ok (.iload_n 2, 1) := by decide +kernel
theorem dX12_tree_25 : decode cX12_tree 25 = .ok (.ifCond .lt 8, 3) := by decide +kernel
theorem dX12_tree_28 : decode cX12_tree 28 = .ok (.iload_n 2, 1) := by decide +kernel
theorem dX12_tree_29 : decode cX12_tree 29 = .ok (.iload_n 3, 1) := by decide +kernel
theorem dX12_tree_30 : decode cX12_tree 30 = .ok (.if_icmp .le 5, 3) := by decide +kernel
theorem dX12_tree_33 : decode cX12_tree 33 = .ok (.iconst (-1), 1) := by decide +kernel
theorem dX12_tree_34 : decode cX12_tree 34 = .ok (.ireturn, 1) := by decide +kernel
theorem dX12_tree_35 : decode cX12_tree 35 = .ok (.aload_n 0, 1) := by decide +kernel
theorem dX12_tree_36 : decode cX12_tree 36 = .ok (.getfield 45, 3) := by decide +kernel
theorem dX12_tree_39 : decode cX12_tree 39 = .ok (.aload_n 0, 1) := by decide +kernel
theorem dX12_tree_40 : decode cX12_tree 40 = .ok (.getfield 28, 3) := by decide +kernel
theorem dX12_tree_43 : decode cX12_tree 43 = .ok (.iload_n 1, 1) := by decide +kernel
theorem dX12_tree_44 : decode cX12_tree 44 = .ok (.invokevirtual 256, 3) := by decide +kernel
theorem dX12_tree_47 : decode cX12_tree 47 = .ok (.iload_n 2, 1) := by decide +kernel
theorem dX12_tree_48 : decode cX12_tree 48 = .ok (.ifCond .ne 11, 3) := by decide +kernel
theorem dX12_tree_51 : decode cX12_tree 51 = .ok (.aload_n 0, 1) := by decide +kernel
theorem dX12_tree_52 : decode cX12_tree 52 = .ok (.getfield 45, 3) := by decide +kernel
theorem dX12_tree_55 : decode cX12_tree 55 = .ok (.getfield 260, 3) := by decide +kernel
theorem dX12_tree_58 : decode cX12_tree 58 = .ok (.ireturn, 1) := by decide +kernel
theorem dX12_tree_59 : decode cX12_tree 59 = .ok (.iload_n 2, 1) := by decide +kernel
theorem dX12_tree_60 : decode cX12_tree 60 = .ok (.iconst 1, 1) := by decide +kernel
theorem dX12_tree_61 : decode cX12_tree 61 = .ok (.if_icmp .ne 13, 3) := by decide +kernel
theorem dX12_tree_64 : decode cX12_tree 64 = .ok (.aload_n 0, 1) := by decide +kernel
theorem dX12_tree_65 : decode cX12_tree 65 = .ok (.getfield 45, 3) := by decide +kernel
theorem dX12_tree_68 : decode cX12_tree 68 = .ok (.getfield 263, 3) := by decide +kernel
theorem dX12_tree_71 : decode cX12_tree 71 = .ok (.goto 13, 3) := by decide +kernel
theorem dX12_tree_74 : decode cX12_tree 74 = .ok (.aload_n 0, 1) := by decide +kernel
theorem dX12_tree_75 : decode cX12_tree 75 = .ok (.getfield 45, 3) := by decide +kernel
theorem dX12_tree_78 : decode cX12_tree 78 = .ok (.iload_n 2, 1) := by decide +kernel
theorem dX12_tree_79 : decode cX12_tree 79 = .ok (.iconst 1, 1) := by decide +kernel
theorem dX12_tree_80 : decode cX12_tree 80 = .ok (.isub, 1) := by decide +kernel
theorem dX12_tree_81 : decode cX12_tree 81 = .ok (.invokevirtual 266, 3) := by decide +kernel
theorem dX12_tree_84 : decode cX12_tree 84 = .ok (.ireturn, 1) := by decide +kernel
theorem dX12_kin_0 : decode cX12_kin 0 = .ok (.aload_n 0, 1) := by decide +kernel
theorem dX12_kin_1 : decode cX12_kin 1 = .ok (.getfield 28, 3) := by decide +kernel
theorem dX12_kin_4 : decode cX12_kin 4 = .ok (.iload_n 1, 1) := by decide +kernel
theorem dX12_kin_5 : decode cX12_kin 5 = .ok (.invokevirtual 130, 3) := by decide +kernel
theorem dX12_kin_8 : decode cX12_kin 8 = .ok (.ifCond .ne 5, 3) := by decide +kernel
theorem dX12_kin_11 : decode cX12_kin 11 = .ok (.iconst (-1), 1) := by decide +kernel
theorem dX12_kin_12 : decode cX12_kin 12 = .ok (.ireturn, 1) := by decide +kernel
theorem dX12_kin_13 : decode cX12_kin 13 = .ok (.iconst 1, 1) := by decide +kernel
theorem dX12_kin_14 : decode cX12_kin 14 = .ok (.iload_n 1, 1) := by decide +kernel
theorem dX12_kin_15 : decode cX12_kin 15 = .ok (.ishl, 1) := by decide +kernel
theorem dX12_kin_16 : decode cX12_kin 16 = .ok (.istore_n 2, 1) := by decide +kernel
theorem dX12_kin_17 : decode cX12_kin 17 = .ok (.iload_n 1, 1) := by decide +kernel
theorem dX12_kin_18 : decode cX12_kin 18 = .ok (.iconst 1, 1) := by decide +kernel
theorem dX12_kin_19 : decode cX12_kin 19 = .ok (.iadd, 1) := by decide +kernel
theorem dX12_kin_20 : decode cX12_kin 20 = .ok (.istore_n 3, 1) := by decide +kernel
theorem dX12_kin_21 : decode cX12_kin 21 = .ok (.iload_n 3, 1) := by decide +kernel
theorem dX12_kin_22 : decode cX12_kin 22 = .ok (.aload_n 0, 1) := by decide +kernel
theorem dX12_kin_23 : decode cX12_kin 23 = .ok (.getfield 28, 3) := by decide +kernel
theorem dX12_kin_26 : decode cX12_kin 26 = .ok (.getfield 176, 3) := by decide +kernel
theorem dX12_kin_29 : decode cX12_kin 29 = .ok (.if_icmp .ge 31, 3) := by decide +kernel
theorem dX12_kin_32 : decode cX12_kin 32 = .ok (.iload_n 2, 1) := by decide +kernel
theorem dX12_kin_33 : decode cX12_kin 33 = .ok (.aload_n 0, 1) := by decide +kernel
theorem dX12_kin_34 : decode cX12_kin 34 = .ok (.getfield 28, 3) := by decide +kernel
theorem dX12_kin_37 : decode cX12_kin 37 = .ok (.getfield 140, 3) := by decide +kernel
theorem dX12_kin_40 : decode cX12_kin 40 = .ok (.iload_n 3, 1) := by decide +kernel
theorem dX12_kin_41 : decode cX12_kin 41 = .ok (.iaload, 1) := by decide +kernel
theorem dX12_kin_42 : decode cX12_kin 42 = .ok (.ishr, 1) := by decide +kernel
theorem dX12_kin_43 : decode cX12_kin 43 = .ok (.iconst 1, 1) := by decide +kernel
theorem dX12_kin_44 : decode cX12_kin 44 = .ok (.iand, 1) := by decide +kernel
theorem dX12_kin_45 : decode cX12_kin 45 = .ok (.ifCond .eq 9, 3) := by decide +kernel
theorem dX12_kin_48 : decode cX12_kin 48 = .ok (.iload_n 2, 1) := by decide +kernel
theorem dX12_kin_49 : decode cX12_kin 49 = .ok (.iconst 1, 1) := by decide +kernel
theorem dX12_kin_50 : decode cX12_kin 50 = .ok (.iload_n 3, 1) := by decide +kernel
theorem dX12_kin_51 : decode cX12_kin 51 = .ok (.ishl, 1) := by decide +kernel
theorem dX12_kin_52 : decode cX12_kin 52 = .ok (.ior, 1) := by decide +kernel
theorem dX12_kin_53 : decode cX12_kin 53 = .ok (.istore_n 2, 1) := by decide +kernel
theorem dX12_kin_54 : decode cX12_kin 54 = .ok (.iinc 3 1, 3) := by decide +kernel
theorem dX12_kin_57 : decode cX12_kin 57 = .ok (.goto (-36), 3) := by decide +kernel
theorem dX12_kin_60 : decode cX12_kin 60 = .ok (.iload_n 2, 1) := by decide +kernel
theorem dX12_kin_61 : decode cX12_kin 61 = .ok (.iconst 1, 1) := by decide +kernel
theorem dX12_kin_62 : decode cX12_kin 62 = .ok (.iload_n 1, 1) := by decide +kernel
theorem dX12_kin_63 : decode cX12_kin 63 = .ok (.ishl, 1) := by decide +kernel
theorem dX12_kin_64 : decode cX12_kin 64 = .ok (.iconst (-1), 1) := by decide +kernel
theorem dX12_kin_65 : decode cX12_kin 65 = .ok (.ixor, 1) := by decide +kernel
theorem dX12_kin_66 : decode cX12_kin 66 = .ok (.iand, 1) := by decide +kernel
theorem dX12_kin_67 : decode cX12_kin 67 = .ok (.ireturn, 1) := by decide +kernel
theorem dX12_nearest_0 : decode cX12_nearest 0 = .ok (.aload_n 0, 1) := by decide +kernel
theorem dX12_nearest_1 : decode cX12_nearest 1 = .ok (.getfield 28, 3) := by decide +kernel
theorem dX12_nearest_4 : decode cX12_nearest 4 = .ok (.iload_n 1, 1) := by decide +kernel
theorem dX12_nearest_5 : decode cX12_nearest 5 = .ok (.invokevirtual 130, 3) := by decide +kernel
theorem dX12_nearest_8 : decode cX12_nearest 8 = .ok (.ifCond .ne 5, 3) := by decide +kernel
theorem dX12_nearest_11 : decode cX12_nearest 11 = .ok (.iconst (-1), 1) := by decide +kernel
theorem dX12_nearest_12 : decode cX12_nearest 12 = .ok (.ireturn, 1) := by decide +kernel
theorem dX12_nearest_13 : decode cX12_nearest 13 = .ok (.iconst (-1), 1) := by decide +kernel
theorem dX12_nearest_14 : decode cX12_nearest 14 = .ok (.istore_n 2, 1) := by decide +kernel
theorem dX12_nearest_15 : decode cX12_nearest 15 = .ok (.iconst 0, 1) := by decide +kernel
theorem dX12_nearest_16 : decode cX12_nearest 16 = .ok (.istore_n 3, 1) := by decide +kernel
theorem dX12_nearest_17 : decode cX12_nearest 17 = .ok (.iload_n 3, 1) := by decide +kernel
theorem dX12_nearest_18 : decode cX12_nearest 18 = .ok (.aload_n 0, 1) := by decide +kernel
theorem dX12_nearest_19 : decode cX12_nearest 19 = .ok (.getfield 28, 3) := by decide +kernel
theorem dX12_nearest_22 : decode cX12_nearest 22 = .ok (.getfield 176, 3) := by decide +kernel
theorem dX12_nearest_25 : decode cX12_nearest 25 = .ok (.if_icmp .ge 68, 3) := by decide +kernel
theorem dX12_nearest_28 : decode cX12_nearest 28 = .ok (.iload_n 3, 1) := by decide +kernel
theorem dX12_nearest_29 : decode cX12_nearest 29 = .ok (.iload_n 1, 1) := by decide +kernel
theorem dX12_nearest_30 : decode cX12_nearest 30 = .ok (.if_icmp .eq 21, 3) := by decide +kernel
theorem dX12_nearest_33 : decode cX12_nearest 33 = .ok (.aload_n 0, 1) := by decide +kernel
theorem dX12_nearest_34 : decode cX12_nearest 34 = .ok (.getfield 28, 3) := by decide +kernel
theorem dX12_nearest_37 : decode cX12_nearest 37 = .ok (.getfield 137, 3) := by decide +kernel
theorem dX12_nearest_40 : decode cX12_nearest 40 = .ok (.iload_n 3, 1) := by decide +kernel
theorem dX12_nearest_41 : decode cX12_nearest 41 = .ok (.iaload, 1) := by decide +kernel
theorem dX12_nearest_42 : decode cX12_nearest 42 = .ok (.bipush 6, 2) := by decide +kernel
theorem dX12_nearest_44 : decode cX12_nearest 44 = .ok (.if_icmp .eq 7, 3) := by decide +kernel
theorem dX12_nearest_47 : decode cX12_nearest 47 = .ok (.iconst 1, 1) := by decide +kernel
theorem dX12_nearest_48 : decode cX12_nearest 48 = .ok (.goto 4, 3) := by decide +kernel
theorem dX12_nearest_51 : decode cX12_nearest 51 = .ok (.iconst 0, 1) := by decide +kernel
theorem dX12_nearest_52 : decode cX12_nearest 52 = .ok (.istore 4, 2) := by decide +kernel
theorem dX12_nearest_54 : decode cX12_nearest 54 = .ok (.iload 4, 2) := by decide +kernel
theorem dX12_nearest_56 : decode cX12_nearest 56 = .ok (.ifCond .eq 31, 3) := by decide +kernel
theorem dX12_nearest_59 : decode cX12_nearest 59 = .ok (.iload_n 2, 1) := by decide +kernel
theorem dX12_nearest_60 : decode cX12_nearest 60 = .ok (.iconst (-1), 1) := by decide +kernel
theorem dX12_nearest_61 : decode cX12_nearest 61 = .ok (.if_icmp .eq 24, 3) := by decide +kernel
theorem dX12_nearest_64 : decode cX12_nearest 64 = .ok (.aload_n 0, 1) := by decide +kernel
theorem dX12_nearest_65 : decode cX12_nearest 65 = .ok (.getfield 28, 3) := by decide +kernel
theorem dX12_nearest_68 : decode cX12_nearest 68 = .ok (.iload_n 1, 1) := by decide +kernel
theorem dX12_nearest_69 : decode cX12_nearest 69 = .ok (.iload_n 3, 1) := by decide +kernel
theorem dX12_nearest_70 : decode cX12_nearest 70 = .ok (.invokevirtual 150, 3) := by decide +kernel
theorem dX12_nearest_73 : decode cX12_nearest 73 = .ok (.aload_n 0, 1) := by decide +kernel
theorem dX12_nearest_74 : decode cX12_nearest 74 = .ok (.getfield 28, 3) := by decide +kernel
theorem dX12_nearest_77 : decode cX12_nearest 77 = .ok (.iload_n 1, 1) := by decide +kernel
theorem dX12_nearest_78 : decode cX12_nearest 78 = .ok (.iload_n 2, 1) := by decide +kernel
theorem dX12_nearest_79 : decode cX12_nearest 79 = .ok (.invokevirtual 150, 3) := by decide +kernel
theorem dX12_nearest_82 : decode cX12_nearest 82 = .ok (.if_icmp .ge 5, 3) := by decide +kernel
theorem dX12_nearest_85 : decode cX12_nearest 85 = .ok (.iload_n 3, 1) := by decide +kernel
theorem dX12_nearest_86 : decode cX12_nearest 86 = .ok (.istore_n 2, 1) := by decide +kernel
theorem dX12_nearest_87 : decode cX12_nearest 87 = .ok (.iinc 3 1, 3) := by decide +kernel
theorem dX12_nearest_90 : decode cX12_nearest 90 = .ok (.goto (-73), 3) := by decide +kernel
theorem dX12_nearest_93 : decode cX12_nearest 93 = .ok (.iload_n 2, 1) := by decide +kernel
theorem dX12_nearest_94 : decode cX12_nearest 94 = .ok (.ireturn, 1) := by decide +kernel
theorem dX12_meet_0 : decode cX12_meet 0 = .ok (.aload_n 0, 1) := by decide +kernel
theorem dX12_meet_1 : decode cX12_meet 1 = .ok (.getfield 76, 3) := by decide +kernel
theorem dX12_meet_4 : decode cX12_meet 4 = .ok (.iload_n 1, 1) := by decide +kernel
theorem dX12_meet_5 : decode cX12_meet 5 = .ok (.invokevirtual 154, 3) := by decide +kernel
theorem dX12_meet_8 : decode cX12_meet 8 = .ok (.ifCond .ne 5, 3) := by decide +kernel
theorem dX12_meet_11 : decode cX12_meet 11 = .ok (.iconst (-1), 1) := by decide +kernel
theorem dX12_meet_12 : decode cX12_meet 12 = .ok (.ireturn, 1) := by decide +kernel
theorem dX12_meet_13 : decode cX12_meet 13 = .ok (.aload_n 0, 1) := by decide +kernel
theorem dX12_meet_14 : decode cX12_meet 14 = .ok (.getfield 76, 3) := by decide +kernel
theorem dX12_meet_17 : decode cX12_meet 17 = .ok (.getfield 166, 3) := by decide +kernel
theorem dX12_meet_20 : decode cX12_meet 20 = .ok (.iload_n 1, 1) := by decide +kernel
theorem dX12_meet_21 : decode cX12_meet 21 = .ok (.iaload, 1) := by decide +kernel
theorem dX12_meet_22 : decode cX12_meet 22 = .ok (.aload_n 0, 1) := by decide +kernel
theorem dX12_meet_23 : decode cX12_meet 23 = .ok (.getfield 28, 3) := by decide +kernel
theorem dX12_meet_26 : decode cX12_meet 26 = .ok (.getfield 195, 3) := by decide +kernel
theorem dX12_meet_29 : decode cX12_meet 29 = .ok (.iconst (-1), 1) := by decide +kernel
theorem dX12_meet_30 : decode cX12_meet 30 = .ok (.ixor, 1) := by decide +kernel
theorem dX12_meet_31 : decode cX12_meet 31 = .ok (.iand, 1) := by decide +kernel
theorem dX12_meet_32 : decode cX12_meet 32 = .ok (.istore_n 2, 1) := by decide +kernel
theorem dX12_meet_33 : decode cX12_meet 33 = .ok (.iconst 0, 1) := by decide +kernel
theorem dX12_meet_34 : decode cX12_meet 34 = .ok (.istore_n 3, 1) := by decide +kernel
theorem dX12_meet_35 : decode cX12_meet 35 = .ok (.iconst 0, 1) := by decide +kernel
theorem dX12_meet_36 : decode cX12_meet 36 = .ok (.istore 4, 2) := by decide +kernel
theorem dX12_meet_38 : decode cX12_meet 38 = .ok (.iload 4, 2) := by decide +kernel
theorem dX12_meet_40 : decode cX12_meet 40 = .ok (.aload_n 0, 1) := by decide +kernel
theorem dX12_meet_41 : decode cX12_meet 41 = .ok (.getfield 76, 3) := by decide +kernel
theorem dX12_meet_44 : decode cX12_meet 44 = .ok (.getfield 179, 3) := by decide +kernel
theorem dX12_meet_47 : decode cX12_meet 47 = .ok (.if_icmp .ge 37, 3) := by decide +kernel
theorem dX12_meet_50 : decode cX12_meet 50 = .ok (.iload 4, 2) := by decide +kernel
theorem dX12_meet_52 : decode cX12_meet 52 = .ok (.iload_n 1, 1) := by decide +kernel
theorem dX12_meet_53 : decode cX12_meet 53 = .ok (.if_icmp .eq 25, 3) := by decide +kernel
theorem dX12_meet_56 : decode cX12_meet 56 = .ok (.aload_n 0, 1) := by decide +kernel
theorem dX12_meet_57 : decode cX12_meet 57 = .ok (.getfield 76, 3) := by decide +kernel
theorem dX12_meet_60 : decode cX12_meet 60 = .ok (.getfield 166, 3) := by decide +kernel
theorem dX12_meet_63 : decode cX12_meet 63 = .ok (.iload 4, 2) := by decide +kernel
theorem dX12_meet_65 : decode cX12_meet 65 = .ok (.iaload, 1) := by decide +kernel
theorem dX12_meet_66 : decode cX12_meet 66 = .ok (.iload_n 2, 1) := by decide +kernel
theorem dX12_meet_67 : decode cX12_meet 67 = .ok (.iand, 1) := by decide +kernel
theorem dX12_meet_68 : decode cX12_meet 68 = .ok (.ifCond .eq 10, 3) := by decide +kernel
theorem dX12_meet_71 : decode cX12_meet 71 = .ok (.iload_n 3, 1) := by decide +kernel
theorem dX12_meet_72 : decode cX12_meet 72 = .ok (.iconst 1, 1) := by decide +kernel
theorem dX12_meet_73 : decode cX12_meet 73 = .ok (.iload 4, 2) := by decide +kernel
theorem dX12_meet_75 : decode cX12_meet 75 = .ok (.ishl, 1) := by decide +kernel
theorem dX12_meet_76 : decode cX12_meet 76 = .ok (.ior, 1) := by decide +kernel
theorem dX12_meet_77 : decode cX12_meet 77 = .ok (.istore_n 3, 1) := by decide +kernel
theorem dX12_meet_78 : decode cX12_meet 78 = .ok (.iinc 4 1, 3) := by decide +kernel
theorem dX12_meet_81 : decode cX12_meet 81 = .ok (.goto (-43), 3) := by decide +kernel
theorem dX12_meet_84 : decode cX12_meet 84 = .ok (.iload_n 3, 1) := by decide +kernel
theorem dX12_meet_85 : decode cX12_meet 85 = .ok (.ireturn, 1) := by decide +kernel
theorem dX12_joined_0 : decode cX12_joined 0 = .ok (.aload_n 0, 1) := by decide +kernel
theorem dX12_joined_1 : decode cX12_joined 1 = .ok (.getfield 28, 3) := by decide +kernel
theorem dX12_joined_4 : decode cX12_joined 4 = .ok (.iload_n 1, 1) := by decide +kernel
theorem dX12_joined_5 : decode cX12_joined 5 = .ok (.invokevirtual 130, 3) := by decide +kernel
theorem dX12_joined_8 : decode cX12_joined 8 = .ok (.ifCond .eq 12, 3) := by decide +kernel
theorem dX12_joined_11 : decode cX12_joined 11 = .ok (.iload_n 2, 1) := by decide +kernel
theorem dX12_joined_12 : decode cX12_joined 12 = .ok (.ifCond .lt 8, 3) := by decide +kernel
theorem dX12_joined_15 : decode cX12_joined 15 = .ok (.iload_n 2, 1) := by decide +kernel
theorem dX12_joined_16 : decode cX12_joined 16 = .ok (.iconst 1, 1) := by decide +kernel
theorem dX12_joined_17 : decode cX12_joined 17 = .ok (.if_icmp .le 6, 3) := by decide +kernel
theorem dX12_joined_20 : decode cX12_joined 20 = .ok (.bipush (-2), 2) := by decide +kernel
theorem dX12_joined_22 : decode cX12_joined 22 = .ok (.ireturn, 1) := by decide +kernel
theorem dX12_joined_23 : decode cX12_joined 23 = .ok (.iconst 0, 1) := by decide +kernel
theorem dX12_joined_24 : decode cX12_joined 24 = .ok (.istore_n 3, 1) := by decide +kernel
theorem dX12_joined_25 : decode cX12_joined 25 = .ok (.iconst (-1), 1) := by decide +kernel
theorem dX12_joined_26 : decode cX12_joined 26 = .ok (.istore 4, 2) := by decide +kernel
theorem dX12_joined_28 : decode cX12_joined 28 = .ok (.iconst 0, 1) := by decide +kernel
theorem dX12_joined_29 : decode cX12_joined 29 = .ok (.istore 5, 2) := by decide +kernel
theorem dX12_joined_31 : decode cX12_joined 31 = .ok (.iload 5, 2) := by decide +kernel
theorem dX12_joined_33 : decode cX12_joined 33 = .ok (.aload_n 0, 1) := by decide +kernel
theorem dX12_joined_34 : decode cX12_joined 34 = .ok (.getfield 28, 3) := by decide +kernel
theorem dX12_joined_37 : decode cX12_joined 37 = .ok (.getfield 176, 3) := by decide +kernel
theorem dX12_joined_40 : decode cX12_joined 40 = .ok (.if_icmp .ge 72, 3) := by decide +kernel
theorem dX12_joined_43 : decode cX12_joined 43 = .ok (.iload 5, 2) := by decide +kernel
theorem dX12_joined_45 : decode cX12_joined 45 = .ok (.iconst 1, 1) := by decide +kernel
theorem dX12_joined_46 : decode cX12_joined 46 = .ok (.iadd, 1) := by decide +kernel
theorem dX12_joined_47 : decode cX12_joined 47 = .ok (.istore 6, 2) := by decide +kernel
theorem dX12_joined_49 : decode cX12_joined 49 = .ok (.iload 6, 2) := by decide +kernel
theorem dX12_joined_51 : decode cX12_joined 51 = .ok (.aload_n 0, 1) := by decide +kernel
theorem dX12_joined_52 : decode cX12_joined 52 = .ok (.getfield 28, 3) := by decide +kernel
theorem dX12_joined_55 : decode cX12_joined 55 = .ok (.getfield 176, 3) := by decide +kernel
theorem dX12_joined_58 : decode cX12_joined 58 = .ok (.if_icmp .ge 48, 3) := by decide +kernel
theorem dX12_joined_61 : decode cX12_joined 61 = .ok (.aload_n 0, 1) := by decide +kernel
theorem dX12_joined_62 : decode cX12_joined 62 = .ok (.getfield 28, 3) := by decide +kernel
theorem dX12_joined_65 : decode cX12_joined 65 = .ok (.iload 5, 2) := by decide +kernel
theorem dX12_joined_67 : decode cX12_joined 67 = .ok (.iload 6, 2) := by decide +kernel
theorem dX12_joined_69 : decode cX12_joined 69 = .ok (.iload_n 1, 1) := by decide +kernel
theorem dX12_joined_70 : decode cX12_joined 70 = .ok (.invokevirtual 269, 3) := by decide +kernel
theorem dX12_joined_73 : decode cX12_joined 73 = .ok (.ifCond .eq 27, 3) := by decide +kernel
theorem dX12_joined_76 : decode cX12_joined 76 = .ok (.iinc 3 1, 3) := by decide +kernel
theorem dX12_joined_79 : decode cX12_joined 79 = .ok (.iload 4, 2) := by decide +kernel
theorem dX12_joined_81 : decode cX12_joined 81 = .ok (.iconst (-1), 1) := by decide +kernel
theorem dX12_joined_82 : decode cX12_joined 82 = .ok (.if_icmp .ne 14, 3) := by decide +kernel
theorem dX12_joined_85 : decode cX12_joined 85 = .ok (.iload 5, 2) := by decide +kernel
theorem dX12_joined_87 : decode cX12_joined 87 = .ok (.bipush 8, 2) := by decide +kernel
theorem dX12_joined_89 : decode cX12_joined 89 = .ok (.imul, 1) := by decide +kernel
theorem dX12_joined_90 : decode cX12_joined 90 = .ok (.iload 6, 2) := by decide +kernel
theorem dX12_joined_92 : decode cX12_joined 92 = .ok (.iadd, 1) := by decide +kernel
theorem dX12_joined_93 : decode cX12_joined 93 = .ok (.goto 5, 3) := by decide +kernel
theorem dX12_joined_96 : decode cX12_joined 96 = .ok (.iload 4, 2) := by decide +kernel
theorem dX12_joined_98 : decode cX12_joined 98 = .ok (.istore 4, 2) := by decide +kernel
theorem dX12_joined_100 : decode cX12_joined 100 = .ok (.iinc 6 1, 3) := by decide +kernel
theorem dX12_joined_103 : decode cX12_joined 103 = .ok (.goto (-54), 3) := by decide +kernel
theorem dX12_joined_106 : decode cX12_joined 106 = .ok (.iinc 5 1, 3) := by decide +kernel
theorem dX12_joined_109 : decode cX12_joined 109 = .ok (.goto (-78), 3) := by decide +kernel
theorem dX12_joined_112 : decode cX12_joined 112 = .ok (.iload_n 2, 1) := by decide +kernel
theorem dX12_joined_113 : decode cX12_joined 113 = .ok (.ifCond .ne 7, 3) := by decide +kernel
theorem dX12_joined_116 : decode cX12_joined 116 = .ok (.iload_n 3, 1) := by decide +kernel
theorem dX12_joined_117 : decode cX12_joined 117 = .ok (.goto 5, 3) := by decide +kernel
theorem dX12_joined_120 : decode cX12_joined 120 = .ok (.iload 4, 2) := by decide +kernel
theorem dX12_joined_122 : decode cX12_joined 122 = .ok (.ireturn, 1) := by decide +kernel
theorem dX12_look_0 : decode cX12_look 0 = .ok (.aload_n 0, 1) := by decide +kernel
theorem dX12_look_1 : decode cX12_look 1 = .ok (.getfield 76, 3) := by decide +kernel
theorem dX12_look_4 : decode cX12_look 4 = .ok (.iload_n 1, 1) := by decide +kernel
theorem dX12_look_5 : decode cX12_look 5 = .ok (.invokevirtual 273, 3) := by decide +kernel
theorem dX12_look_8 : decode cX12_look 8 = .ok (.ifCond .eq 15, 3) := by decide +kernel
theorem dX12_look_11 : decode cX12_look 11 = .ok (.aload_n 0, 1) := by decide +kernel
theorem dX12_look_12 : decode cX12_look 12 = .ok (.getfield 28, 3) := by decide +kernel
theorem dX12_look_15 : decode cX12_look 15 = .ok (.getfield 198, 3) := by decide +kernel
theorem dX12_look_18 : decode cX12_look 18 = .ok (.bipush 8, 2) := by decide +kernel
theorem dX12_look_20 : decode cX12_look 20 = .ok (.if_icmp .lt 5, 3) := by decide +kernel
theorem dX12_look_23 : decode cX12_look 23 = .ok (.iconst 0, 1) := by decide +kernel
theorem dX12_look_24 : decode cX12_look 24 = .ok (.ireturn, 1) := by decide +kernel
theorem dX12_look_25 : decode cX12_look 25 = .ok (.aload_n 0, 1) := by decide +kernel
theorem dX12_look_26 : decode cX12_look 26 = .ok (.getfield 28, 3) := by decide +kernel
theorem dX12_look_29 : decode cX12_look 29 = .ok (.dup, 1) := by decide +kernel
theorem dX12_look_30 : decode cX12_look 30 = .ok (.getfield 198, 3) := by decide +kernel
theorem dX12_look_33 : decode cX12_look 33 = .ok (.iconst 1, 1) := by decide +kernel
theorem dX12_look_34 : decode cX12_look 34 = .ok (.iadd, 1) := by decide +kernel
theorem dX12_look_35 : decode cX12_look 35 = .ok (.putfield 198, 3) := by decide +kernel
theorem dX12_look_38 : decode cX12_look 38 = .ok (.iload_n 2, 1) := by decide +kernel
theorem dX12_look_39 : decode cX12_look 39 = .ok (.ifCond .eq 21, 3) := by decide +kernel
theorem dX12_look_42 : decode cX12_look 42 = .ok (.aload_n 0, 1) := by decide +kernel
theorem dX12_look_43 : decode cX12_look 43 = .ok (.getfield 28, 3) := by decide +kernel
theorem dX12_look_46 : decode cX12_look 46 = .ok (.dup, 1) := by decide +kernel
theorem dX12_look_47 : decode cX12_look 47 = .ok (.getfield 276, 3) := by decide +kernel
theorem dX12_look_50 : decode cX12_look 50 = .ok (.iconst 1, 1) := by decide +kernel
theorem dX12_look_51 : decode cX12_look 51 = .ok (.iload_n 1, 1) := by decide +kernel
theorem dX12_look_52 : decode cX12_look 52 = .ok (.ishl, 1) := by decide +kernel
theorem dX12_look_53 : decode cX12_look 53 = .ok (.ior, 1) := by decide +kernel
theorem dX12_look_54 : decode cX12_look 54 = .ok (.putfield 276, 3) := by decide +kernel
theorem dX12_look_57 : decode cX12_look 57 = .ok (.goto 18, 3) := by decide +kernel
theorem dX12_look_60 : decode cX12_look 60 = .ok (.aload_n 0, 1) := by decide +kernel
theorem dX12_look_61 : decode cX12_look 61 = .ok (.getfield 28, 3) := by decide +kernel
theorem dX12_look_64 : decode cX12_look 64 = .ok (.dup, 1) := by decide +kernel
theorem dX12_look_65 : decode cX12_look 65 = .ok (.getfield 279, 3) := by decide +kernel
theorem dX12_look_68 : decode cX12_look 68 = .ok (.iconst 1, 1) := by decide +kernel
theorem dX12_look_69 : decode cX12_look 69 = .ok (.iload_n 1, 1) := by decide +kernel
theorem dX12_look_70 : decode cX12_look 70 = .ok (.ishl, 1) := by decide +kernel
theorem dX12_look_71 : decode cX12_look 71 = .ok (.ior, 1) := by decide +kernel
theorem dX12_look_72 : decode cX12_look 72 = .ok (.putfield 279, 3) := by decide +kernel
theorem dX12_look_75 : decode cX12_look 75 = .ok (.iconst 1, 1) := by decide +kernel
theorem dX12_look_76 : decode cX12_look 76 = .ok (.ireturn, 1) := by decide +kernel
theorem dX12_fits_0 : decode cX12_fits 0 = .ok (.iconst 0, 1) := by decide +kernel
theorem dX12_fits_1 : decode cX12_fits 1 = .ok (.istore_n 1, 1) := by decide +kernel
theorem dX12_fits_2 : decode cX12_fits 2 = .ok (.iconst 0, 1) := by decide +kernel
theorem dX12_fits_3 : decode cX12_fits 3 = .ok (.istore_n 2, 1) := by decide +kernel
theorem dX12_fits_4 : decode cX12_fits 4 = .ok (.iload_n 2, 1) := by decide +kernel
theorem dX12_fits_5 : decode cX12_fits 5 = .ok (.aload_n 0, 1) := by decide +kernel
theorem dX12_fits_6 : decode cX12_fits 6 = .ok (.getfield 28, 3) := by decide +kernel
theorem dX12_fits_9 : decode cX12_fits 9 = .ok (.getfield 176, 3) := by decide +kernel
theorem dX12_fits_12 : decode cX12_fits 12 = .ok (.if_icmp .ge 26, 3) := by decide +kernel
theorem dX12_fits_15 : decode cX12_fits 15 = .ok (.aload_n 0, 1) := by decide +kernel
theorem dX12_fits_16 : decode cX12_fits 16 = .ok (.getfield 28, 3) := by decide +kernel
theorem dX12_fits_19 : decode cX12_fits 19 = .ok (.iload_n 2, 1) := by decide +kernel
theorem dX12_fits_20 : decode cX12_fits 20 = .ok (.invokevirtual 282, 3) := by decide +kernel
theorem dX12_fits_23 : decode cX12_fits 23 = .ok (.ifCond .eq 9, 3) := by decide +kernel
theorem dX12_fits_26 : decode cX12_fits 26 = .ok (.iload_n 1, 1) := by decide +kernel
theorem dX12_fits_27 : decode cX12_fits 27 = .ok (.iconst 1, 1) := by decide +kernel
theorem dX12_fits_28 : decode cX12_fits 28 = .ok (.iload_n 2, 1) := by decide +kernel
theorem dX12_fits_29 : decode cX12_fits 29 = .ok (.ishl, 1) := by decide +kernel
theorem dX12_fits_30 : decode cX12_fits 30 = .ok (.ior, 1) := by decide +kernel
theorem dX12_fits_31 : decode cX12_fits 31 = .ok (.istore_n 1, 1) := by decide +kernel
theorem dX12_fits_32 : decode cX12_fits 32 = .ok (.iinc 2 1, 3) := by decide +kernel
theorem dX12_fits_35 : decode cX12_fits 35 = .ok (.goto (-31), 3) := by decide +kernel
theorem dX12_fits_38 : decode cX12_fits 38 = .ok (.iload_n 1, 1) := by decide +kernel
theorem dX12_fits_39 : decode cX12_fits 39 = .ok (.ireturn, 1) := by decide +kernel
theorem dX12_ask_0 : decode cX12_ask 0 = .ok (.iconst (-1), 1) := by decide +kernel
theorem dX12_ask_1 : decode cX12_ask 1 = .ok (.istore_n 1, 1) := by decide +kernel
theorem dX12_ask_2 : decode cX12_ask 2 = .ok (.aload_n 0, 1) := by decide +kernel
theorem dX12_ask_3 : decode cX12_ask 3 = .ok (.invokevirtual 285, 3) := by decide +kernel
theorem dX12_ask_6 : decode cX12_ask 6 = .ok (.invokestatic 248, 3) := by decide +kernel
theorem dX12_ask_9 : decode cX12_ask 9 = .ok (.istore_n 2, 1) := by decide +kernel
theorem dX12_ask_10 : decode cX12_ask 10 = .ok (.iconst 0, 1) := by decide +kernel
theorem dX12_ask_11 : decode cX12_ask 11 = .ok (.istore_n 3, 1) := by decide +kernel
theorem dX12_ask_12 : decode cX12_ask 12 = .ok (.iload_n 3, 1) := by decide +kernel
theorem dX12_ask_13 : decode cX12_ask 13 = .ok (.aload_n 0, 1) := by decide +kernel
theorem dX12_ask_14 : decode cX12_ask 14 = .ok (.getfield 76, 3) := by decide +kernel
theorem dX12_ask_17 : decode cX12_ask 17 = .ok (.getfield 173, 3) := by decide +kernel
theorem dX12_ask_20 : decode cX12_ask 20 = .ok (.if_icmp .ge 27, 3) := by decide +kernel
theorem dX12_ask_23 : decode cX12_ask 23 = .ok (.aload_n 0, 1) := by decide +kernel
theorem dX12_ask_24 : decode cX12_ask 24 = .ok (.iload_n 3, 1) := by decide +kernel
theorem dX12_ask_25 : decode cX12_ask 25 = .ok (.invokevirtual 288, 3) := by decide +kernel
theorem dX12_ask_28 : decode cX12_ask 28 = .ok (.istore 4, 2) := by decide +kernel
theorem dX12_ask_30 : decode cX12_ask 30 = .ok (.iload 4, 2) := by decide +kernel
theorem dX12_ask_32 : decode cX12_ask 32 = .ok (.iload_n 2, 1) := by decide +kernel
theorem dX12_ask_33 : decode cX12_ask 33 = .ok (.if_icmp .ge 8, 3) := by decide +kernel
theorem dX12_ask_36 : decode cX12_ask 36 = .ok (.iload 4, 2) := by decide +kernel
theorem dX12_ask_38 : decode cX12_ask 38 = .ok (.istore_n 2, 1) := by decide +kernel
theorem dX12_ask_39 : decode cX12_ask 39 = .ok (.iload_n 3, 1) := by decide +kernel
theorem dX12_ask_40 : decode cX12_ask 40 = .ok (.istore_n 1, 1) := by decide +kernel
theorem dX12_ask_41 : decode cX12_ask 41 = .ok (.iinc 3 1, 3) := by decide +kernel
theorem dX12_ask_44 : decode cX12_ask 44 = .ok (.goto (-32), 3) := by decide +kernel
theorem dX12_ask_47 : decode cX12_ask 47 = .ok (.iload_n 1, 1) := by decide +kernel
theorem dX12_ask_48 : decode cX12_ask 48 = .ok (.ireturn, 1) := by decide +kernel
theorem dX12_greaterPart_0 : decode cX12_greaterPart 0 = .ok (.iconst 0, 1) := by decide +kernel
theorem dX12_greaterPart_1 : decode cX12_greaterPart 1 = .ok (.istore_n 2, 1) := by decide +kernel
theorem dX12_greaterPart_2 : decode cX12_greaterPart 2 = .ok (.iconst 0, 1) := by decide +kernel
theorem dX12_greaterPart_3 : decode cX12_greaterPart 3 = .ok (.istore_n 3, 1) := by decide +kernel
theorem dX12_greaterPart_4 : decode cX12_greaterPart 4 = .ok (.iconst 0, 1) := by decide +kernel
theorem dX12_greaterPart_5 : decode cX12_greaterPart 5 = .ok (.istore 4, 2) := by decide +kernel
theorem dX12_greaterPart_7 : decode cX12_greaterPart 7 = .ok (.iload 4, 2) := by decide +kernel
theorem dX12_greaterPart_9 : decode cX12_greaterPart 9 = .ok (.aload_n 0, 1) := by decide +kernel
theorem dX12_greaterPart_10 : decode cX12_greaterPart 10 = .ok (.getfield 28, 3) := by decide +kernel
theorem dX12_greaterPart_13 : decode cX12_greaterPart 13 = .ok (.getfield 176, 3) := by decide +kernel
theorem dX12_greaterPart_16 : decode cX12_greaterPart 16 = .ok (.if_icmp .ge 49, 3) := by decide +kernel
theorem dX12_greaterPart_19 : decode cX12_greaterPart 19 = .ok (.aload_n 0, 1) := by decide +kernel
theorem dX12_greaterPart_20 : decode cX12_greaterPart 20 = .ok (.getfield 28, 3) := by decide +kernel
theorem dX12_greaterPart_23 : decode cX12_greaterPart 23 = .ok (.iload 4, 2) := by decide +kernel
theorem dX12_greaterPart_25 : decode cX12_greaterPart 25 = .ok (.invokevirtual 282, 3) := by decide +kernel
theorem dX12_greaterPart_28 : decode cX12_greaterPart 28 = .ok (.ifCond .eq 31, 3) := by decide +kernel
theorem dX12_greaterPart_31 : decode cX12_greaterPart 31 = .ok (.aload_n 0, 1) := by decide +kernel
theorem dX12_greaterPart_32 : decode cX12_greaterPart 32 = .ok (.getfield 28, 3) := by decide +kernel
theorem dX12_greaterPart_35 : decode cX12_greaterPart 35 = .ok (.getfield 134, 3) := by decide +kernel
theorem dX12_greaterPart_38 : decode cX12_greaterPart 38 = .ok (.iload 4, 2) := by decide +kernel
theorem dX12_greaterPart_40 : decode cX12_greaterPart 40 = .ok (.iaload, 1) := by decide +kernel
theorem dX12_greaterPart_41 : decode cX12_greaterPart 41 = .ok (.iload_n 1, 1) := by decide +kernel
theorem dX12_greaterPart_42 : decode cX12_greaterPart 42 = .ok (.ishr, 1) := by decide +kernel
theorem dX12_greaterPart_43 : decode cX12_greaterPart 43 = .ok (.iconst 1, 1) := by decide +kernel
theorem dX12_greaterPart_44 : decode cX12_greaterPart 44 = .ok (.iand, 1) := by decide +kernel
theorem dX12_greaterPart_45 : decode cX12_greaterPart 45 = .ok (.istore 5, 2) := by decide +kernel
theorem dX12_greaterPart_47 : decode cX12_greaterPart 47 = .ok (.iload_n 2, 1) := by decide +kernel
theorem dX12_greaterPart_48 : decode cX12_greaterPart 48 = .ok (.iload 5, 2) := by decide +kernel
theorem dX12_greaterPart_50 : decode cX12_greaterPart 50 = .ok (.iadd, 1) := by decide +kernel
theorem dX12_greaterPart_51 : decode cX12_greaterPart 51 = .ok (.istore_n 2, 1) := by decide +kernel
theorem dX12_greaterPart_52 : decode cX12_greaterPart 52 = .ok (.iload_n 3, 1) := by decide +kernel
theorem dX12_greaterPart_53 : decode cX12_greaterPart 53 = .ok (.iconst 1, 1) := by decide +kernel
theorem dX12_greaterPart_54 : decode cX12_greaterPart 54 = .ok (.iload 5, 2) := by decide +kernel
theorem dX12_greaterPart_56 : decode cX12_greaterPart 56 = .ok (.isub, 1) := by decide +kernel
theorem dX12_greaterPart_57 : decode cX12_greaterPart 57 = .ok (.iadd, 1) := by decide +kernel
theorem dX12_greaterPart_58 : decode cX12_greaterPart 58 = .ok (.istore_n 3, 1) := by decide +kernel
theorem dX12_greaterPart_59 : decode cX12_greaterPart 59 = .ok (.iinc 4 1, 3) := by decide +kernel
theorem dX12_greaterPart_62 : decode cX12_greaterPart 62 = .ok (.goto (-55), 3) := by decide +kernel
theorem dX12_greaterPart_65 : decode cX12_greaterPart 65 = .ok (.iload_n 2, 1) := by decide +kernel
theorem dX12_greaterPart_66 : decode cX12_greaterPart 66 = .ok (.iload_n 3, 1) := by decide +kernel
theorem dX12_greaterPart_67 : decode cX12_greaterPart 67 = .ok (.invokestatic 291, 3) := by decide +kernel
theorem dX12_greaterPart_70 : decode cX12_greaterPart 70 = .ok (.ireturn, 1) := by decide +kernel
theorem dX12_price_0 : decode cX12_price 0 = .ok (.iconst 0, 1) := by decide +kernel
theorem dX12_price_1 : decode cX12_price 1 = .ok (.istore_n 1, 1) := by decide +kernel
theorem dX12_price_2 : decode cX12_price 2 = .ok (.iconst 0, 1) := by decide +kernel
theorem dX12_price_3 : decode cX12_price 3 = .ok (.istore_n 2, 1) := by decide +kernel
theorem dX12_price_4 : decode cX12_price 4 = .ok (.iconst 0, 1) := by decide +kernel
theorem dX12_price_5 : decode cX12_price 5 = .ok (.istore_n 3, 1) := by decide +kernel
theorem dX12_price_6 : decode cX12_price 6 = .ok (.iload_n 3, 1) := by decide +kernel
theorem dX12_price_7 : decode cX12_price 7 = .ok (.aload_n 0, 1) := by decide +kernel
theorem dX12_price_8 : decode cX12_price 8 = .ok (.getfield 28, 3) := by decide +kernel
theorem dX12_price_11 : decode cX12_price 11 = .ok (.getfield 176, 3) := by decide +kernel
theorem dX12_price_14 : decode cX12_price 14 = .ok (.if_icmp .ge 38, 3) := by decide +kernel
theorem dX12_price_17 : decode cX12_price 17 = .ok (.aload_n 0, 1) := by decide +kernel
theorem dX12_price_18 : decode cX12_price 18 = .ok (.getfield 28, 3) := by decide +kernel
theorem dX12_price_21 : decode cX12_price 21 = .ok (.iload_n 3, 1) := by decide +kernel
theorem dX12_price_22 : decode cX12_price 22 = .ok (.invokevirtual 282, 3) := by decide +kernel
theorem dX12_price_25 : decode cX12_price 25 = .ok (.ifCond .eq 21, 3) := by decide +kernel
theorem dX12_price_28 : decode cX12_price 28 = .ok (.iload_n 1, 1) := by decide +kernel
theorem dX12_price_29 : decode cX12_price 29 = .ok (.aload_n 0, 1) := by decide +kernel
theorem dX12_price_30 : decode cX12_price 30 = .ok (.getfield 28, 3) := by decide +kernel
theorem dX12_price_33 : decode cX12_price 33 = .ok (.aload_n 0, 1) := by decide +kernel
theorem dX12_price_34 : decode cX12_price 34 = .ok (.getfield 76, 3) := by decide +kernel
theorem dX12_price_37 : decode cX12_price 37 = .ok (.iload_n 3, 1) := by decide +kernel
theorem dX12_price_38 : decode cX12_price 38 = .ok (.invokevirtual 146, 3) := by decide +kernel
theorem dX12_price_41 : decode cX12_price 41 = .ok (.iadd, 1) := by decide +kernel
theorem dX12_price_42 : decode cX12_price 42 = .ok (.istore_n 1, 1) := by decide +kernel
theorem dX12_price_43 : decode cX12_price 43 = .ok (.iinc 2 1, 3) := by decide +kernel
theorem dX12_price_46 : decode cX12_price 46 = .ok (.iinc 3 1, 3) := by decide +kernel
theorem dX12_price_49 : decode cX12_price 49 = .ok (.goto (-43), 3) := by decide +kernel
theorem dX12_price_52 : decode cX12_price 52 = .ok (.iload_n 2, 1) := by decide +kernel
theorem dX12_price_53 : decode cX12_price 53 = .ok (.ifCond .ne 7, 3) := by decide +kernel
theorem dX12_price_56 : decode cX12_price 56 = .ok (.iconst (-1), 1) := by decide +kernel
theorem dX12_price_57 : decode cX12_price 57 = .ok (.goto 10, 3) := by decide +kernel
theorem dX12_price_60 : decode cX12_price 60 = .ok (.iload_n 1, 1) := by decide +kernel
theorem dX12_price_61 : decode cX12_price 61 = .ok (.sipush 1000, 3) := by decide +kernel
theorem dX12_price_64 : decode cX12_price 64 = .ok (.imul, 1) := by decide +kernel
theorem dX12_price_65 : decode cX12_price 65 = .ok (.iload_n 2, 1) := by decide +kernel
theorem dX12_price_66 : decode cX12_price 66 = .ok (.idiv, 1) := by decide +kernel
theorem dX12_price_67 : decode cX12_price 67 = .ok (.ireturn, 1) := by decide +kernel
theorem dX12_painters_0 : decode cX12_painters 0 = .ok (.aload_n 0, 1) := by decide +kernel
theorem dX12_painters_1 : decode cX12_painters 1 = .ok (.getfield 52, 3) := by decide +kernel
theorem dX12_painters_4 : decode cX12_painters 4 = .ok (.aload_n 0, 1) := by decide +kernel
theorem dX12_painters_5 : decode cX12_painters 5 = .ok (.getfield 28, 3) := by decide +kernel
theorem dX12_painters_8 : decode cX12_painters 8 = .ok (.aload_n 0, 1) := by decide +kernel
theorem dX12_painters_9 : decode cX12_painters 9 = .ok (.getfield 76, 3) := by decide +kernel
theorem dX12_painters_12 : decode cX12_painters 12 = .ok (.invokevirtual 296, 3) := by decide +kernel
theorem dX12_painters_15 : decode cX12_painters 15 = .ok (.aload_n 0, 1) := by decide +kernel
theorem dX12_painters_16 : decode cX12_painters 16 = .ok (.getfield 52, 3) := by decide +kernel
theorem dX12_painters_19 : decode cX12_painters 19 = .ok (.invokevirtual 300, 3) := by decide +kernel
theorem dX12_painters_22 : decode cX12_painters 22 = .ok (.ireturn, 1) := by decide +kernel
theorem dX12_painter_0 : decode cX12_painter 0 = .ok (.iload_n 1, 1) := by decide +kernel
theorem dX12_painter_1 : decode cX12_painter 1 = .ok (.iconst 1, 1) := by decide +kernel
theorem dX12_painter_2 : decode cX12_painter 2 = .ok (.if_icmp .lt 14, 3) := by decide +kernel
theorem dX12_painter_5 : decode cX12_painter 5 = .ok (.aload_n 0, 1) := by decide +kernel
theorem dX12_painter_6 : decode cX12_painter 6 = .ok (.getfield 28, 3) := by decide +kernel
theorem dX12_painter_9 : decode cX12_painter 9 = .ok (.iload_n 1, 1) := by decide +kernel
theorem dX12_painter_10 : decode cX12_painter 10 = .ok (.invokevirtual 130, 3) := by decide +kernel
theorem dX12_painter_13 : decode cX12_painter 13 = .ok (.ifCond .ne 5, 3) := by decide +kernel
theorem dX12_painter_16 : decode cX12_painter 16 = .ok (.iconst (-1), 1) := by decide +kernel
theorem dX12_painter_17 : decode cX12_painter 17 = .ok (.ireturn, 1) := by decide +kernel
theorem dX12_painter_18 : decode cX12_painter 18 = .ok (.aload_n 0, 1) := by decide +kernel
theorem dX12_painter_19 : decode cX12_painter 19 = .ok (.getfield 52, 3) := by decide +kernel
theorem dX12_painter_22 : decode cX12_painter 22 = .ok (.aload_n 0, 1) := by decide +kernel
theorem dX12_painter_23 : decode cX12_painter 23 = .ok (.getfield 28, 3) := by decide +kernel
theorem dX12_painter_26 : decode cX12_painter 26 = .ok (.aload_n 0, 1) := by decide +kernel
theorem dX12_painter_27 : decode cX12_painter 27 = .ok (.getfield 76, 3) := by decide +kernel
theorem dX12_painter_30 : decode cX12_painter 30 = .ok (.invokevirtual 296, 3) := by decide +kernel
theorem dX12_painter_33 : decode cX12_painter 33 = .ok (.iload_n 2, 1) := by decide +kernel
theorem dX12_painter_34 : decode cX12_painter 34 = .ok (.ifCond .eq 14, 3) := by decide +kernel
theorem dX12_painter_37 : decode cX12_painter 37 = .ok (.aload_n 0, 1) := by decide +kernel
theorem dX12_painter_38 : decode cX12_painter 38 = .ok (.getfield 52, 3) := by decide +kernel
theorem dX12_painter_41 : decode cX12_painter 41 = .ok (.iload_n 1, 1) := by decide +kernel
theorem dX12_painter_42 : decode cX12_painter 42 = .ok (.invokevirtual 303, 3) := by decide +kernel
theorem dX12_painter_45 : decode cX12_painter 45 = .ok (.goto 11, 3) := by decide +kernel
theorem dX12_painter_48 : decode cX12_painter 48 = .ok (.aload_n 0, 1) := by decide +kernel
theorem dX12_painter_49 : decode cX12_painter 49 = .ok (.getfield 52, 3) := by decide +kernel
theorem dX12_painter_52 : decode cX12_painter 52 = .ok (.iload_n 1, 1) := by decide +kernel
theorem dX12_painter_53 : decode cX12_painter 53 = .ok (.invokevirtual 306, 3) := by decide +kernel
theorem dX12_painter_56 : decode cX12_painter 56 = .ok (.ireturn, 1) := by decide +kernel
theorem dX12_knows_0 : decode cX12_knows 0 = .ok (.iload_n 1, 1) := by decide +kernel
theorem dX12_knows_1 : decode cX12_knows 1 = .ok (.ifCond .lt 26, 3) := by decide +kernel
theorem dX12_knows_4 : decode cX12_knows 4 = .ok (.iload_n 1, 1) := by decide +kernel
theorem dX12_knows_5 : decode cX12_knows 5 = .ok (.aload_n 0, 1) := by decide +kernel
theorem dX12_knows_6 : decode cX12_knows 6 = .ok (.getfield 76, 3) := by decide +kernel
theorem dX12_knows_9 : decode cX12_knows 9 = .ok (.getfield 182, 3) := by decide +kernel
theorem dX12_knows_12 : decode cX12_knows 12 = .ok (.if_icmp .ge 15, 3) := by decide +kernel
theorem dX12_knows_15 : decode cX12_knows 15 = .ok (.aload_n 0, 1) := by decide +kernel
theorem dX12_knows_16 : decode cX12_knows 16 = .ok (.iload_n 2, 1) := by decide +kernel
theorem dX12_knows_17 : decode cX12_knows 17 = .ok (.invokevirtual 253, 3) := by decide +kernel
theorem dX12_knows_20 : decode cX12_knows 20 = .ok (.ifCond .eq 7, 3) := by decide +kernel
theorem dX12_knows_23 : decode cX12_knows 23 = .ok (.iconst 1, 1) := by decide +kernel
theorem dX12_knows_24 : decode cX12_knows 24 = .ok (.goto 4, 3) := by decide +kernel
theorem dX12_knows_27 : decode cX12_knows 27 = .ok (.iconst 0, 1) := by decide +kernel
theorem dX12_knows_28 : decode cX12_knows 28 = .ok (.istore_n 3, 1) := by decide +kernel
theorem dX12_knows_29 : decode cX12_knows 29 = .ok (.iload_n 3, 1) := by decide +kernel
theorem dX12_knows_30 : decode cX12_knows 30 = .ok (.ifCond .eq 12, 3) := by decide +kernel
theorem dX12_knows_33 : decode cX12_knows 33 = .ok (.aload_n 0, 1) := by decide +kernel
theorem dX12_knows_34 : decode cX12_knows 34 = .ok (.iload_n 1, 1) := by decide +kernel
theorem dX12_knows_35 : decode cX12_knows 35 = .ok (.iload_n 2, 1) := by decide +kernel
theorem dX12_knows_36 : decode cX12_knows 36 = .ok (.invokevirtual 309, 3) := by decide +kernel
theorem dX12_knows_39 : decode cX12_knows 39 = .ok (.goto 4, 3) := by decide +kernel
theorem dX12_knows_42 : decode cX12_knows 42 = .ok (.iconst (-1), 1) := by decide +kernel
theorem dX12_knows_43 : decode cX12_knows 43 = .ok (.ireturn, 1) := by decide +kernel
theorem dX12_depth_0 : decode cX12_depth 0 = .ok (.aload_n 0, 1) := by decide +kernel
theorem dX12_depth_1 : decode cX12_depth 1 = .ok (.iload_n 1, 1) := by decide +kernel
theorem dX12_depth_2 : decode cX12_depth 2 = .ok (.invokevirtual 253, 3) := by decide +kernel
theorem dX12_depth_5 : decode cX12_depth 5 = .ok (.ifCond .eq 14, 3) := by decide +kernel
theorem dX12_depth_8 : decode cX12_depth 8 = .ok (.iload_n 2, 1) := by decide +kernel
theorem dX12_depth_9 : decode cX12_depth 9 = .ok (.iconst 1, 1) := by decide +kernel
theorem dX12_depth_10 : decode cX12_depth 10 = .ok (.if_icmp .lt 9, 3) := by decide +kernel
theorem dX12_depth_13 : decode cX12_depth 13 = .ok (.iload_n 2, 1) := by decide +kernel
theorem dX12_depth_14 : decode cX12_depth 14 = .ok (.bipush 9, 2) := by decide +kernel
theorem dX12_depth_16 : decode cX12_depth 16 = .ok (.if_icmp .le 5, 3) := by decide +kernel
theorem dX12_depth_19 : decode cX12_depth 19 = .ok (.iconst (-1), 1) := by decide +kernel
theorem dX12_depth_20 : decode cX12_depth 20 = .ok (.ireturn, 1) := by decide +kernel
theorem dX12_depth_21 : decode cX12_depth 21 = .ok (.aload_n 0, 1) := by decide +kernel
theorem dX12_depth_22 : decode cX12_depth 22 = .ok (.iload_n 1, 1) := by decide +kernel
theorem dX12_depth_23 : decode cX12_depth 23 = .ok (.iload_n 2, 1) := by decide +kernel
theorem dX12_depth_24 : decode cX12_depth 24 = .ok (.invokevirtual 312, 3) := by decide +kernel
theorem dX12_depth_27 : decode cX12_depth 27 = .ok (.ireturn, 1) := by decide +kernel
theorem dX12_common_0 : decode cX12_common 0 = .ok (.aload_n 0, 1) := by decide +kernel
theorem dX12_common_1 : decode cX12_common 1 = .ok (.iload_n 1, 1) := by decide +kernel
theorem dX12_common_2 : decode cX12_common 2 = .ok (.invokevirtual 253, 3) := by decide +kernel
theorem dX12_common_5 : decode cX12_common 5 = .ok (.ifCond .eq 13, 3) := by decide +kernel
theorem dX12_common_8 : decode cX12_common 8 = .ok (.aload_n 0, 1) := by decide +kernel
theorem dX12_common_9 : decode cX12_common 9 = .ok (.iload_n 1, 1) := by decide +kernel
theorem dX12_common_10 : decode cX12_common 10 = .ok (.bipush 8, 2) := by decide +kernel
theorem dX12_common_12 : decode cX12_common 12 = .ok (.invokevirtual 312, 3) := by decide +kernel
theorem dX12_common_15 : decode cX12_common 15 = .ok (.goto 4, 3) := by decide +kernel
theorem dX12_common_18 : decode cX12_common 18 = .ok (.iconst (-1), 1) := by decide +kernel
theorem dX12_common_19 : decode cX12_common 19 = .ok (.ireturn, 1) := by decide +kernel
theorem dX12_known_0 : decode cX12_known 0 = .ok (.iconst 0, 1) := by decide +kernel
theorem dX12_known_1 : decode cX12_known 1 = .ok (.istore_n 3, 1) := by decide +kernel
theorem dX12_known_2 : decode cX12_known 2 = .ok (.iconst 0, 1) := by decide +kernel
theorem dX12_known_3 : decode cX12_known 3 = .ok (.istore 4, 2) := by decide +kernel
theorem dX12_known_5 : decode cX12_known 5 = .ok (.iload 4, 2) := by decide +kernel
theorem dX12_known_7 : decode cX12_known 7 = .ok (.aload_n 0, 1) := by decide +kernel
theorem dX12_known_8 : decode cX12_known 8 = .ok (.getfield 28, 3) := by decide +kernel
theorem dX12_known_11 : decode cX12_known 11 = .ok (.getfield 176, 3) := by decide +kernel
theorem dX12_known_14 : decode cX12_known 14 = .ok (.if_icmp .ge 41, 3) := by decide +kernel
theorem dX12_known_17 : decode cX12_known 17 = .ok (.aload_n 0, 1) := by decide +kernel
theorem dX12_known_18 : decode cX12_known 18 = .ok (.getfield 28, 3) := by decide +kernel
theorem dX12_known_21 : decode cX12_known 21 = .ok (.iload 4, 2) := by decide +kernel
theorem dX12_known_23 : decode cX12_known 23 = .ok (.aload_n 0, 1) := by decide +kernel
theorem dX12_known_24 : decode cX12_known 24 = .ok (.getfield 76, 3) := by decide +kernel
theorem dX12_known_27 : decode cX12_known 27 = .ok (.getfield 315, 3) := by decide +kernel
theorem dX12_known_30 : decode cX12_known 30 = .ok (.iload_n 1, 1) := by decide +kernel
theorem dX12_known_31 : decode cX12_known 31 = .ok (.iaload, 1) := by decide +kernel
theorem dX12_known_32 : decode cX12_known 32 = .ok (.invokevirtual 318, 3) := by decide +kernel
theorem dX12_known_35 : decode cX12_known 35 = .ok (.iload_n 2, 1) := by decide +kernel
theorem dX12_known_36 : decode cX12_known 36 = .ok (.iconst (-1), 1) := by decide +kernel
theorem dX12_known_37 : decode cX12_known 37 = .ok (.ixor, 1) := by decide +kernel
theorem dX12_known_38 : decode cX12_known 38 = .ok (.iand, 1) := by decide +kernel
theorem dX12_known_39 : decode cX12_known 39 = .ok (.ifCond .ne 10, 3) := by decide +kernel
theorem dX12_known_42 : decode cX12_known 42 = .ok (.iload_n 3, 1) := by decide +kernel
theorem dX12_known_43 : decode cX12_known 43 = .ok (.iconst 1, 1) := by decide +kernel
theorem dX12_known_44 : decode cX12_known 44 = .ok (.iload 4, 2) := by decide +kernel
theorem dX12_known_46 : decode cX12_known 46 = .ok (.ishl, 1) := by decide +kernel
theorem dX12_known_47 : decode cX12_known 47 = .ok (.ior, 1) := by decide +kernel
theorem dX12_known_48 : decode cX12_known 48 = .ok (.istore_n 3, 1) := by decide +kernel
theorem dX12_known_49 : decode cX12_known 49 = .ok (.iinc 4 1, 3) := by decide +kernel
theorem dX12_known_52 : decode cX12_known 52 = .ok (.goto (-47), 3) := by decide +kernel
theorem dX12_known_55 : decode cX12_known 55 = .ok (.iload_n 3, 1) := by decide +kernel
theorem dX12_known_56 : decode cX12_known 56 = .ok (.ireturn, 1) := by decide +kernel
theorem dX12_knownTo_0 : decode cX12_knownTo 0 = .ok (.iload_n 1, 1) := by decide +kernel
theorem dX12_knownTo_1 : decode cX12_knownTo 1 = .ok (.istore_n 3, 1) := by decide +kernel
theorem dX12_knownTo_2 : decode cX12_knownTo 2 = .ok (.iconst 0, 1) := by decide +kernel
theorem dX12_knownTo_3 : decode cX12_knownTo 3 = .ok (.istore 4, 2) := by decide +kernel
theorem dX12_knownTo_5 : decode cX12_knownTo 5 = .ok (.iload 4, 2) := by decide +kernel
theorem dX12_knownTo_7 : decode cX12_knownTo 7 = .ok (.iload_n 2, 1) := by decide +kernel
theorem dX12_knownTo_8 : decode cX12_knownTo 8 = .ok (.if_icmp .ge 44, 3) := by decide +kernel
theorem dX12_knownTo_11 : decode cX12_knownTo 11 = .ok (.iload_n 3, 1) := by decide +kernel
theorem dX12_knownTo_12 : decode cX12_knownTo 12 = .ok (.istore 5, 2) := by decide +kernel
theorem dX12_knownTo_14 : decode cX12_knownTo 14 = .ok (.iconst 0, 1) := by decide +kernel
theorem dX12_knownTo_15 : decode cX12_knownTo 15 = .ok (.istore 6, 2) := by decide +kernel
theorem dX12_knownTo_17 : decode cX12_knownTo 17 = .ok (.iload 6, 2) := by decide +kernel
theorem dX12_knownTo_19 : decode cX12_knownTo 19 = .ok (.aload_n 0, 1) := by decide +kernel
theorem dX12_knownTo_20 : decode cX12_knownTo 20 = .ok (.getfield 76, 3) := by decide +kernel
theorem dX12_knownTo_23 : decode cX12_knownTo 23 = .ok (.getfield 182, 3) := by decide +kernel
theorem dX12_knownTo_26 : decode cX12_knownTo 26 = .ok (.if_icmp .ge 20, 3) := by decide +kernel
theorem dX12_knownTo_29 : decode cX12_knownTo 29 = .ok (.iload_n 3, 1) := by decide +kernel
theorem dX12_knownTo_30 : decode cX12_knownTo 30 = .ok (.aload_n 0, 1) := by decide +kernel
theorem dX12_knownTo_31 : decode cX12_knownTo 31 = .ok (.iload 6, 2) := by decide +kernel
theorem dX12_knownTo_33 : decode cX12_knownTo 33 = .ok (.iload 5, 2) := by decide +kernel
theorem dX12_knownTo_35 : decode cX12_knownTo 35 = .ok (.invokevirtual 309, 3) := by decide +kernel
theorem dX12_knownTo_38 : decode cX12_knownTo 38 = .ok (.iand, 1) := by decide +kernel
theorem dX12_knownTo_39 : decode cX12_knownTo 39 = .ok (.istore_n 3, 1) := by decide +kernel
theorem dX12_knownTo_40 : decode cX12_knownTo 40 = .ok (.iinc 6 1, 3) := by decide +kernel
theorem dX12_knownTo_43 : decode cX12_knownTo 43 = .ok (.goto (-26), 3) := by decide +kernel
theorem dX12_knownTo_46 : decode cX12_knownTo 46 = .ok (.iinc 4 1, 3) := by decide +kernel
theorem dX12_knownTo_49 : decode cX12_knownTo 49 = .ok (.goto (-44), 3) := by decide +kernel
theorem dX12_knownTo_52 : decode cX12_knownTo 52 = .ok (.iload_n 3, 1) := by decide +kernel
theorem dX12_knownTo_53 : decode cX12_knownTo 53 = .ok (.ireturn, 1) := by decide +kernel
theorem dX12_rests_0 : decode cX12_rests 0 = .ok (.iload_n 1, 1) := by decide +kernel
theorem dX12_rests_1 : decode cX12_rests 1 = .ok (.ifCond .lt 25, 3) := by decide +kernel
theorem dX12_rests_4 : decode cX12_rests 4 = .ok (.iload_n 1, 1) := by decide +kernel
theorem dX12_rests_5 : decode cX12_rests 5 = .ok (.bipush 10, 2) := by decide +kernel
theorem dX12_rests_7 : decode cX12_rests 7 = .ok (.if_icmp .ge 19, 3) := by decide +kernel
theorem dX12_rests_10 : decode cX12_rests 10 = .ok (.iload_n 2, 1) := by decide +kernel
theorem dX12_rests_11 : decode cX12_rests 11 = .ok (.ifCond .lt 15, 3) := by decide +kernel
theorem dX12_rests_14 : decode cX12_rests 14 = .ok (.iload_n 2, 1) := by decide +kernel
theorem dX12_rests_15 : decode cX12_rests 15 = .ok (.bipush 10, 2) := by decide +kernel
theorem dX12_rests_17 : decode cX12_rests 17 = .ok (.if_icmp .ge 9, 3) := by decide +kernel
theorem dX12_rests_20 : decode cX12_rests 20 = .ok (.iload 4, 2) := by decide +kernel
theorem dX12_rests_22 : decode cX12_rests 22 = .ok (.iconst (-1), 1) := by decide +kernel
theorem dX12_rests_23 : decode cX12_rests 23 = .ok (.if_icmp .ge 14, 3) := by decide +kernel
theorem dX12_rests_26 : decode cX12_rests 26 = .ok (.new 321, 3) := by decide +kernel
theorem dX12_rests_29 : decode cX12_rests 29 = .ok (.dup, 1) := by decide +kernel
theorem dX12_rests_30 : decode cX12_rests 30 = .ok (.ldc_w 323, 3) := by decide +kernel
theorem dX12_rests_33 : decode cX12_rests 33 = .ok (.invokespecial 325, 3) := by decide +kernel
theorem dX12_rests_36 : decode cX12_rests 36 = .ok (.athrow, 1) := by decide +kernel
theorem dX12_rests_37 : decode cX12_rests 37 = .ok (.iconst 0, 1) := by decide +kernel
theorem dX12_rests_38 : decode cX12_rests 38 = .ok (.istore 5, 2) := by decide +kernel
theorem dX12_rests_40 : decode cX12_rests 40 = .ok (.iconst 0, 1) := by decide +kernel
theorem dX12_rests_41 : decode cX12_rests 41 = .ok (.istore 6, 2) := by decide +kernel
theorem dX12_rests_43 : decode cX12_rests 43 = .ok (.iload 6, 2) := by decide +kernel
theorem dX12_rests_45 : decode cX12_rests 45 = .ok (.bipush 100, 2) := by decide +kernel
theorem dX12_rests_47 : decode cX12_rests 47 = .ok (.if_icmp .ge 41, 3) := by decide +kernel
theorem dX12_rests_50 : decode cX12_rests 50 = .ok (.iload_n 1, 1) := by decide +kernel
theorem dX12_rests_51 : decode cX12_rests 51 = .ok (.iload_n 2, 1) := by decide +kernel
theorem dX12_rests_52 : decode cX12_rests 52 = .ok (.iload_n 3, 1) := by decide +kernel
theorem dX12_rests_53 : decode cX12_rests 53 = .ok (.iload 6, 2) := by decide +kernel
theorem dX12_rests_55 : decode cX12_rests 55 = .ok (.bipush 10, 2) := by decide +kernel
theorem dX12_rests_57 : decode cX12_rests 57 = .ok (.idiv, 1) := by decide +kernel
theorem dX12_rests_58 : decode cX12_rests 58 = .ok (.iload 6, 2) := by decide +kernel
theorem dX12_rests_60 : decode cX12_rests 60 = .ok (.bipush 10, 2) := by decide +kernel
theorem dX12_rests_62 : decode cX12_rests 62 = .ok (.irem, 1) := by decide +kernel
theorem dX12_rests_63 : decode cX12_rests 63 = .ok (.invokestatic 328, 3) := by decide +kernel
theorem dX12_rests_66 : decode cX12_rests 66 = .ok (.ifCond .eq 16, 3) := by decide +kernel
theorem dX12_rests_69 : decode cX12_rests 69 = .ok (.iload 5, 2) := by decide +kernel
theorem dX12_rests_71 : decode cX12_rests 71 = .ok (.iload 4, 2) := by decide +kernel
theorem dX12_rests_73 : decode cX12_rests 73 = .ok (.if_icmp .ne 6, 3) := by decide +kernel
theorem dX12_rests_76 : decode cX12_rests 76 = .ok (.iload 6, 2) := by decide +kernel
theorem dX12_rests_78 : decode cX12_rests 78 = .ok (.ireturn, 1) := by decide +kernel
theorem dX12_rests_79 : decode cX12_rests 79 = .ok (.iinc 5 1, 3) := by decide +kernel
theorem dX12_rests_82 : decode cX12_rests 82 = .ok (.iinc 6 1, 3) := by decide +kernel
theorem dX12_rests_85 : decode cX12_rests 85 = .ok (.goto (-42), 3) := by decide +kernel
theorem dX12_rests_88 : decode cX12_rests 88 = .ok (.iload 4, 2) := by decide +kernel
theorem dX12_rests_90 : decode cX12_rests 90 = .ok (.iconst (-1), 1) := by decide +kernel
theorem dX12_rests_91 : decode cX12_rests 91 = .ok (.if_icmp .eq 14, 3) := by decide +kernel
theorem dX12_rests_94 : decode cX12_rests 94 = .ok (.new 321, 3) := by decide +kernel
theorem dX12_rests_97 : decode cX12_rests 97 = .ok (.dup, 1) := by decide +kernel
theorem dX12_rests_98 : decode cX12_rests 98 = .ok (.ldc_w 332, 3) := by decide +kernel
theorem dX12_rests_101 : decode cX12_rests 101 = .ok (.invokespecial 325, 3) := by decide +kernel
theorem dX12_rests_104 : decode cX12_rests 104 = .ok (.athrow, 1) := by decide +kernel
theorem dX12_rests_105 : decode cX12_rests 105 = .ok (.iload 5, 2) := by decide +kernel
theorem dX12_rests_107 : decode cX12_rests 107 = .ok (.ireturn, 1) := by decide +kernel
theorem dX12_isRest_0 : decode cX12_isRest 0 = .ok (.iload_n 0, 1) := by decide +kernel
theorem dX12_isRest_1 : decode cX12_isRest 1 = .ok (.iload_n 2, 1) := by decide +kernel
theorem dX12_isRest_2 : decode cX12_isRest 2 = .ok (.iload_n 3, 1) := by decide +kernel
theorem dX12_isRest_3 : decode cX12_isRest 3 = .ok (.iload 4, 2) := by decide +kernel
theorem dX12_isRest_5 : decode cX12_isRest 5 = .ok (.invokestatic 334, 3) := by decide +kernel
theorem dX12_isRest_8 : decode cX12_isRest 8 = .ok (.istore 5, 2) := by decide +kernel
theorem dX12_isRest_10 : decode cX12_isRest 10 = .ok (.iload_n 1, 1) := by decide +kernel
theorem dX12_isRest_11 : decode cX12_isRest 11 = .ok (.iload_n 2, 1) := by decide +kernel
theorem dX12_isRest_12 : decode cX12_isRest 12 = .ok (.iload_n 3, 1) := by decide +kernel
theorem dX12_isRest_13 : decode cX12_isRest 13 = .ok (.iload 4, 2) := by decide +kernel
theorem dX12_isRest_15 : decode cX12_isRest 15 = .ok (.invokestatic 338, 3) := by decide +kernel
theorem dX12_isRest_18 : decode cX12_isRest 18 = .ok (.istore 6, 2) := by decide +kernel
theorem dX12_isRest_20 : decode cX12_isRest 20 = .ok (.iconst 0, 1) := by decide +kernel
theorem dX12_isRest_21 : decode cX12_isRest 21 = .ok (.istore 7, 2) := by decide +kernel
theorem dX12_isRest_23 : decode cX12_isRest 23 = .ok (.iload 7, 2) := by decide +kernel
theorem dX12_isRest_25 : decode cX12_isRest 25 = .ok (.bipush 10, 2) := by decide +kernel
theorem dX12_isRest_27 : decode cX12_isRest 27 = .ok (.if_icmp .ge 50, 3) := by decide +kernel
theorem dX12_isRest_30 : decode cX12_isRest 30 = .ok (.iload_n 0, 1) := by decide +kernel
theorem dX12_isRest_31 : decode cX12_isRest 31 = .ok (.iload_n 2, 1) := by decide +kernel
theorem dX12_isRest_32 : decode cX12_isRest 32 = .ok (.iload 7, 2) := by decide +kernel
theorem dX12_isRest_34 : decode cX12_isRest 34 = .ok (.iload 4, 2) := by decide +kernel
theorem dX12_isRest_36 : decode cX12_isRest 36 = .ok (.invokestatic 334, 3) := by decide +kernel
theorem dX12_isRest_39 : decode cX12_isRest 39 = .ok (.iload 5, 2) := by decide +kernel
theorem dX12_isRest_41 : decode cX12_isRest 41 = .ok (.if_icmp .le 7, 3) := by decide +kernel
theorem dX12_isRest_44 : decode cX12_isRest 44 = .ok (.iconst 1, 1) := by decide +kernel
theorem dX12_isRest_45 : decode cX12_isRest 45 = .ok (.goto 4, 3) := by decide +kernel
theorem dX12_isRest_48 : decode cX12_isRest 48 = .ok (.iconst 0, 1) := by decide +kernel
theorem dX12_isRest_49 : decode cX12_isRest 49 = .ok (.istore 8, 2) := by decide +kernel
theorem dX12_isRest_51 : decode cX12_isRest 51 = .ok (.iload 8, 2) := by decide +kernel
theorem dX12_isRest_53 : decode cX12_isRest 53 = .ok (.ifCond .ne 16, 3) := by decide +kernel
theorem dX12_isRest_56 : decode cX12_isRest 56 = .ok (.iload_n 1, 1) := by decide +kernel
theorem dX12_isRest_57 : decode cX12_isRest 57 = .ok (.iload_n 2, 1) := by decide +kernel
theorem dX12_isRest_58 : decode cX12_isRest 58 = .ok (.iload_n 3, 1) := by decide +kernel
theorem dX12_isRest_59 : decode cX12_isRest 59 = .ok (.iload 7, 2) := by decide +kernel
theorem dX12_isRest_61 : decode cX12_isRest 61 = .ok (.invokestatic 338, 3) := by decide +kernel
theorem dX12_isRest_64 : decode cX12_isRest 64 = .ok (.iload 6, 2) := by decide +kernel
theorem dX12_isRest_66 : decode cX12_isRest 66 = .ok (.if_icmp .le 5, 3) := by decide +kernel
theorem dX12_isRest_69 : decode cX12_isRest 69 = .ok (.iconst 0, 1) := by decide +kernel
theorem dX12_isRest_70 : decode cX12_isRest 70 = .ok (.ireturn, 1) := by decide +kernel
theorem dX12_isRest_71 : decode cX12_isRest 71 = .ok (.iinc 7 1, 3) := by decide +kernel
theorem dX12_isRest_74 : decode cX12_isRest 74 = .ok (.goto (-51), 3) := by decide +kernel
theorem dX12_isRest_77 : decode cX12_isRest 77 = .ok (.iconst 1, 1) := by decide +kernel
theorem dX12_isRest_78 : decode cX12_isRest 78 = .ok (.ireturn, 1) := by decide +kernel
theorem dX12_firstGain_0 : decode cX12_firstGain 0 = .ok (.iload_n 2, 1) := by decide +kernel
theorem dX12_firstGain_1 : decode cX12_firstGain 1 = .ok (.iload_n 3, 1) := by decide +kernel
theorem dX12_firstGain_2 : decode cX12_firstGain 2 = .ok (.if_icmp .lt 17, 3) := by decide +kernel
theorem dX12_firstGain_5 : decode cX12_firstGain 5 = .ok (.iload_n 0, 1) := by decide +kernel
theorem dX12_firstGain_6 : decode cX12_firstGain 6 = .ok (.iload_n 1, 1) := by decide +kernel
theorem dX12_firstGain_7 : decode cX12_firstGain 7 = .ok (.ifCond .eq 7, 3) := by decide +kernel
theorem dX12_firstGain_10 : decode cX12_firstGain 10 = .ok (.iload_n 2, 1) := by decide +kernel
theorem dX12_firstGain_11 : decode cX12_firstGain 11 = .ok (.goto 4, 3) := by decide +kernel
theorem dX12_firstGain_14 : decode cX12_firstGain 14 = .ok (.iload_n 3, 1) := by decide +kernel
theorem dX12_firstGain_15 : decode cX12_firstGain 15 = .ok (.isub, 1) := by decide +kernel
theorem dX12_firstGain_16 : decode cX12_firstGain 16 = .ok (.goto 4, 3) := by decide +kernel
theorem dX12_firstGain_19 : decode cX12_firstGain 19 = .ok (.iconst 0, 1) := by decide +kernel
theorem dX12_firstGain_20 : decode cX12_firstGain 20 = .ok (.ireturn, 1) := by decide +kernel
theorem dX12_secondGain_0 : decode cX12_secondGain 0 = .ok (.iload_n 3, 1) := by decide +kernel
theorem dX12_secondGain_1 : decode cX12_secondGain 1 = .ok (.iload_n 2, 1) := by decide +kernel
theorem dX12_secondGain_2 : decode cX12_secondGain 2 = .ok (.if_icmp .le 17, 3) := by decide +kernel
theorem dX12_secondGain_5 : decode cX12_secondGain 5 = .ok (.iload_n 0, 1) := by decide +kernel
theorem dX12_secondGain_6 : decode cX12_secondGain 6 = .ok (.iload_n 1, 1) := by decide +kernel
theorem dX12_secondGain_7 : decode cX12_secondGain 7 = .ok (.ifCond .eq 7, 3) := by decide +kernel
theorem dX12_secondGain_10 : decode cX12_secondGain 10 = .ok (.iload_n 3, 1) := by decide +kernel
theorem dX12_secondGain_11 : decode cX12_secondGain 11 = .ok (.goto 4, 3) := by decide +kernel
theorem dX12_secondGain_14 : decode cX12_secondGain 14 = .ok (.iload_n 2, 1) := by decide +kernel
theorem dX12_secondGain_15 : decode cX12_secondGain 15 = .ok (.isub, 1) := by decide +kernel
theorem dX12_secondGain_16 : decode cX12_secondGain 16 = .ok (.goto 4, 3) := by decide +kernel
theorem dX12_secondGain_19 : decode cX12_secondGain 19 = .ok (.iconst 0, 1) := by decide +kernel
theorem dX12_secondGain_20 : decode cX12_secondGain 20 = .ok (.ireturn, 1) := by decide +kernel
theorem dX12_watch_0 : decode cX12_watch 0 = .ok (.iload_n 1, 1) := by decide +kernel
theorem dX12_watch_1 : decode cX12_watch 1 = .ok (.ifCond .lt 8, 3) := by decide +kernel
theorem dX12_watch_4 : decode cX12_watch 4 = .ok (.iload_n 1, 1) := by decide +kernel
theorem dX12_watch_5 : decode cX12_watch 5 = .ok (.iconst 5, 1) := by decide +kernel
theorem dX12_watch_6 : decode cX12_watch 6 = .ok (.if_icmp .le 5, 3) := by decide +kernel
theorem dX12_watch_9 : decode cX12_watch 9 = .ok (.iconst (-1), 1) := by decide +kernel
theorem dX12_watch_10 : decode cX12_watch 10 = .ok (.ireturn, 1) := by decide +kernel
theorem dX12_watch_11 : decode cX12_watch 11 = .ok (.aload_n 0, 1) := by decide +kernel
theorem dX12_watch_12 : decode cX12_watch 12 = .ok (.invokevirtual 341, 3) := by decide +kernel
theorem dX12_watch_15 : decode cX12_watch 15 = .ok (.iconst (-1), 1) := by decide +kernel
theorem dX12_watch_16 : decode cX12_watch 16 = .ok (.istore_n 2, 1) := by decide +kernel
theorem dX12_watch_17 : decode cX12_watch 17 = .ok (.iconst 0, 1) := by decide +kernel
theorem dX12_watch_18 : decode cX12_watch 18 = .ok (.istore_n 3, 1) := by decide +kernel
theorem dX12_watch_19 : decode cX12_watch 19 = .ok (.iload_n 3, 1) := by decide +kernel
theorem dX12_watch_20 : decode cX12_watch 20 = .ok (.aload_n 0, 1) := by decide +kernel
theorem dX12_watch_21 : decode cX12_watch 21 = .ok (.getfield 63, 3) := by decide +kernel
theorem dX12_watch_24 : decode cX12_watch 24 = .ok (.arraylength, 1) := by decide +kernel
theorem dX12_watch_25 : decode cX12_watch 25 = .ok (.if_icmp .ge 67, 3) := by decide +kernel
theorem dX12_watch_28 : decode cX12_watch 28 = .ok (.iload_n 3, 1) := by decide +kernel
theorem dX12_watch_29 : decode cX12_watch 29 = .ok (.invokestatic 248, 3) := by decide +kernel
theorem dX12_watch_32 : decode cX12_watch 32 = .ok (.aload_n 0, 1) := by decide +kernel
theorem dX12_watch_33 : decode cX12_watch 33 = .ok (.getfield 76, 3) := by decide +kernel
theorem dX12_watch_36 : decode cX12_watch 36 = .ok (.getfield 179, 3) := by decide +kernel
theorem dX12_watch_39 : decode cX12_watch 39 = .ok (.iload_n 1, 1) := by decide +kernel
theorem dX12_watch_40 : decode cX12_watch 40 = .ok (.isub, 1) := by decide +kernel
theorem dX12_watch_41 : decode cX12_watch 41 = .ok (.if_icmp .lt 7, 3) := by decide +kernel
theorem dX12_watch_44 : decode cX12_watch 44 = .ok (.iconst 1, 1) := by decide +kernel
theorem dX12_watch_45 : decode cX12_watch 45 = .ok (.goto 4, 3) := by decide +kernel
theorem dX12_watch_48 : decode cX12_watch 48 = .ok (.iconst 0, 1) := by decide +kernel
theorem dX12_watch_49 : decode cX12_watch 49 = .ok (.istore 4, 2) := by decide +kernel
theorem dX12_watch_51 : decode cX12_watch 51 = .ok (.iload 4, 2) := by decide +kernel
theorem dX12_watch_53 : decode cX12_watch 53 = .ok (.ifCond .eq 33, 3) := by decide +kernel
theorem dX12_watch_56 : decode cX12_watch 56 = .ok (.aload_n 0, 1) := by decide +kernel
theorem dX12_watch_57 : decode cX12_watch 57 = .ok (.getfield 63, 3) := by decide +kernel
theorem dX12_watch_60 : decode cX12_watch 60 = .ok (.iload_n 3, 1) := by decide +kernel
theorem dX12_watch_61 : decode cX12_watch 61 = .ok (.iaload, 1) := by decide +kernel
theorem dX12_watch_62 : decode cX12_watch 62 = .ok (.iconst (-1), 1) := by decide +kernel
theorem dX12_watch_63 : decode cX12_watch 63 = .ok (.if_icmp .eq 23, 3) := by decide +kernel
theorem dX12_watch_66 : decode cX12_watch 66 = .ok (.aload_n 0, 1) := by decide +kernel
theorem dX12_watch_67 : decode cX12_watch 67 = .ok (.getfield 63, 3) := by decide +kernel
theorem dX12_watch_70 : decode cX12_watch 70 = .ok (.iload_n 3, 1) := by decide +kernel
theorem dX12_watch_71 : decode cX12_watch 71 = .ok (.iaload, 1) := by decide +kernel
theorem dX12_watch_72 : decode cX12_watch 72 = .ok (.iload_n 2, 1) := by decide +kernel
theorem dX12_watch_73 : decode cX12_watch 73 = .ok (.invokestatic 344, 3) := by decide +kernel
theorem dX12_watch_76 : decode cX12_watch 76 = .ok (.ifCond .eq 10, 3) := by decide +kernel
theorem dX12_watch_79 : decode cX12_watch 79 = .ok (.aload_n 0, 1) := by decide +kernel
theorem dX12_watch_80 : decode cX12_watch 80 = .ok (.getfield 63, 3) := by decide +kernel
theorem dX12_watch_83 : decode cX12_watch 83 = .ok (.iload_n 3, 1) := by decide +kernel
theorem dX12_watch_84 : decode cX12_watch 84 = .ok (.iaload, 1) := by decide +kernel
theorem dX12_watch_85 : decode cX12_watch 85 = .ok (.istore_n 2, 1) := by decide +kernel
theorem dX12_watch_86 : decode cX12_watch 86 = .ok (.iinc 3 1, 3) := by decide +kernel
theorem dX12_watch_89 : decode cX12_watch 89 = .ok (.goto (-70), 3) := by decide +kernel
theorem dX12_watch_92 : decode cX12_watch 92 = .ok (.iload_n 2, 1) := by decide +kernel
theorem dX12_watch_93 : decode cX12_watch 93 = .ok (.ireturn, 1) := by decide +kernel
theorem dX12_setWatches_0 : decode cX12_setWatches 0 = .ok (.aload_n 0, 1) := by decide +kernel
theorem dX12_setWatches_1 : decode cX12_setWatches 1 = .ok (.getfield 63, 3) := by decide +kernel
theorem dX12_setWatches_4 : decode cX12_setWatches 4 = .ok (.iconst (-1), 1) := by decide +kernel
theorem dX12_setWatches_5 : decode cX12_setWatches 5 = .ok (.invokestatic 348, 3) := by decide +kernel
theorem dX12_setWatches_8 : decode cX12_setWatches 8 = .ok (.aload_n 0, 1) := by decide +kernel
theorem dX12_setWatches_9 : decode cX12_setWatches 9 = .ok (.getfield 63, 3) := by decide +kernel
theorem dX12_setWatches_12 : decode cX12_setWatches 12 = .ok (.iconst 0, 1) := by decide +kernel
theorem dX12_setWatches_13 : decode cX12_setWatches 13 = .ok (.iconst 0, 1) := by decide +kernel
theorem dX12_setWatches_14 : decode cX12_setWatches 14 = .ok (.iastore, 1) := by decide +kernel
theorem dX12_setWatches_15 : decode cX12_setWatches 15 = .ok (.iconst 0, 1) := by decide +kernel
theorem dX12_setWatches_16 : decode cX12_setWatches 16 = .ok (.istore_n 1, 1) := by decide +kernel
theorem dX12_setWatches_17 : decode cX12_setWatches 17 = .ok (.iload_n 1, 1) := by decide +kernel
theorem dX12_setWatches_18 : decode cX12_setWatches 18 = .ok (.bipush 24, 2) := by decide +kernel
theorem dX12_setWatches_20 : decode cX12_setWatches 20 = .ok (.if_icmp .ge 98, 3) := by decide +kernel
theorem dX12_setWatches_23 : decode cX12_setWatches 23 = .ok (.aload_n 0, 1) := by decide +kernel
theorem dX12_setWatches_24 : decode cX12_setWatches 24 = .ok (.getfield 76, 3) := by decide +kernel
theorem dX12_setWatches_27 : decode cX12_setWatches 27 = .ok (.iload_n 1, 1) := by decide +kernel
theorem dX12_setWatches_28 : decode cX12_setWatches 28 = .ok (.invokevirtual 354, 3) := by decide +kernel
theorem dX12_setWatches_31 : decode cX12_setWatches 31 = .ok (.istore_n 2, 1) := by decide +kernel
theorem dX12_setWatches_32 : decode cX12_setWatches 32 = .ok (.iconst 0, 1) := by decide +kernel
theorem dX12_setWatches_33 : decode cX12_setWatches 33 = .ok (.istore_n 3, 1) := by decide +kernel
theorem dX12_setWatches_34 : decode cX12_setWatches 34 = .ok (.iload_n 3, 1) := by decide +kernel
theorem dX12_setWatches_35 : decode cX12_setWatches 35 = .ok (.aload_n 0, 1) := by decide +kernel
theorem dX12_setWatches_36 : decode cX12_setWatches 36 = .ok (.getfield 63, 3) := by decide +kernel
theorem dX12_setWatches_39 : decode cX12_setWatches 39 = .ok (.arraylength, 1) := by decide +kernel
theorem dX12_setWatches_40 : decode cX12_setWatches 40 = .ok (.if_icmp .ge 72, 3) := by decide +kernel
theorem dX12_setWatches_43 : decode cX12_setWatches 43 = .ok (.iload_n 3, 1) := by decide +kernel
theorem dX12_setWatches_44 : decode cX12_setWatches 44 = .ok (.iload_n 2, 1) := by decide +kernel
theorem dX12_setWatches_45 : decode cX12_setWatches 45 = .ok (.ior, 1) := by decide +kernel
theorem dX12_setWatches_46 : decode cX12_setWatches 46 = .ok (.aload_n 0, 1) := by decide +kernel
theorem dX12_setWatches_47 : decode cX12_setWatches 47 = .ok (.getfield 63, 3) := by decide +kernel
theorem dX12_setWatches_50 : decode cX12_setWatches 50 = .ok (.arraylength, 1) := by decide +kernel
theorem dX12_setWatches_51 : decode cX12_setWatches 51 = .ok (.iconst 1, 1) := by decide +kernel
theorem dX12_setWatches_52 : decode cX12_setWatches 52 = .ok (.isub, 1) := by decide +kernel
theorem dX12_setWatches_53 : decode cX12_setWatches 53 = .ok (.iand, 1) := by decide +kernel
theorem dX12_setWatches_54 : decode cX12_setWatches 54 = .ok (.istore 4, 2) := by decide +kernel
theorem dX12_setWatches_56 : decode cX12_setWatches 56 = .ok (.aload_n 0, 1) := by decide +kernel
theorem dX12_setWatches_57 : decode cX12_setWatches 57 = .ok (.getfield 63, 3) := by decide +kernel
theorem dX12_setWatches_60 : decode cX12_setWatches 60 = .ok (.iload_n 3, 1) := by decide +kernel
theorem dX12_setWatches_61 : decode cX12_setWatches 61 = .ok (.iaload, 1) := by decide +kernel
theorem dX12_setWatches_62 : decode cX12_setWatches 62 = .ok (.iconst (-1), 1) := by decide +kernel
theorem dX12_setWatches_63 : decode cX12_setWatches 63 = .ok (.if_icmp .eq 43, 3) := by decide +kernel
theorem dX12_setWatches_66 : decode cX12_setWatches 66 = .ok (.aload_n 0, 1) := by decide +kernel
theorem dX12_setWatches_67 : decode cX12_setWatches 67 = .ok (.getfield 63, 3) := by decide +kernel
theorem dX12_setWatches_70 : decode cX12_setWatches 70 = .ok (.iload_n 3, 1) := by decide +kernel
theorem dX12_setWatches_71 : decode cX12_setWatches 71 = .ok (.iaload, 1) := by decide +kernel
theorem dX12_setWatches_72 : decode cX12_setWatches 72 = .ok (.iconst 1, 1) := by decide +kernel
theorem dX12_setWatches_73 : decode cX12_setWatches 73 = .ok (.iload_n 1, 1) := by decide +kernel
theorem dX12_setWatches_74 : decode cX12_setWatches 74 = .ok (.ishl, 1) := by decide +kernel
theorem dX12_setWatches_75 : decode cX12_setWatches 75 = .ok (.ior, 1) := by decide +kernel
theorem dX12_setWatches_76 : decode cX12_setWatches 76 = .ok (.aload_n 0, 1) := by decide +kernel
theorem dX12_setWatches_77 : decode cX12_setWatches 77 = .ok (.getfield 63, 3) := by decide +kernel
theorem dX12_setWatches_80 : decode cX12_setWatches 80 = .ok (.iload 4, 2) := by decide +kernel
theorem dX12_setWatches_82 : decode cX12_setWatches 82 = .ok (.iaload, 1) := by decide +kernel
theorem dX12_setWatches_83 : decode cX12_setWatches 83 = .ok (.invokestatic 344, 3) := by decide +kernel
theorem dX12_setWatches_86 : decode cX12_setWatches 86 = .ok (.ifCond .eq 20, 3) := by decide +kernel
theorem dX12_setWatches_89 : decode cX12_setWatches 89 = .ok (.aload_n 0, 1) := by decide +kernel
theorem dX12_setWatches_90 : decode cX12_setWatches 90 = .ok (.getfield 63, 3) := by decide +kernel
theorem dX12_setWatches_93 : decode cX12_setWatches 93 = .ok (.iload 4, 2) := by decide +kernel
theorem dX12_setWatches_95 : decode cX12_setWatches 95 = .ok (.aload_n 0, 1) := by decide +kernel
theorem dX12_setWatches_96 : decode cX12_setWatches 96 = .ok (.getfield 63, 3) := by decide +kernel
theorem dX12_setWatches_99 : decode cX12_setWatches 99 = .ok (.iload_n 3, 1) := by decide +kernel
theorem dX12_setWatches_100 : decode cX12_setWatches 100 = .ok (.iaload, 1) := by decide +kernel
theorem dX12_setWatches_101 : decode cX12_setWatches 101 = .ok (.iconst 1, 1) := by decide +kernel
theorem dX12_setWatches_102 : decode cX12_setWatches 102 = .ok (.iload_n 1, 1) := by decide +kernel
theorem dX12_setWatches_103 : decode cX12_setWatches 103 = .ok (.ishl, 1) := by decide +kernel
theorem dX12_setWatches_104 : decode cX12_setWatches 104 = .ok (.ior, 1) := by decide +kernel
theorem dX12_setWatches_105 : decode cX12_setWatches 105 = .ok (.iastore, 1) := by decide +kernel
theorem dX12_setWatches_106 : decode cX12_setWatches 106 = .ok (.iinc 3 1, 3) := by decide +kernel
theorem dX12_setWatches_109 : decode cX12_setWatches 109 = .ok (.goto (-75), 3) := by decide +kernel
theorem dX12_setWatches_112 : decode cX12_setWatches 112 = .ok (.iinc 1 1, 3) := by decide +kernel
theorem dX12_setWatches_115 : decode cX12_setWatches 115 = .ok (.goto (-98), 3) := by decide +kernel
theorem dX12_setWatches_118 : decode cX12_setWatches 118 = .ok (.return_, 1) := by decide +kernel
theorem dX12_isFewer_0 : decode cX12_isFewer 0 = .ok (.iload_n 1, 1) := by decide +kernel
theorem dX12_isFewer_1 : decode cX12_isFewer 1 = .ok (.iconst (-1), 1) := by decide +kernel
theorem dX12_isFewer_2 : decode cX12_isFewer 2 = .ok (.if_icmp .ne 5, 3) := by decide +kernel
theorem dX12_isFewer_5 : decode cX12_isFewer 5 = .ok (.iconst 1, 1) := by decide +kernel
theorem dX12_isFewer_6 : decode cX12_isFewer 6 = .ok (.ireturn, 1) := by decide +kernel
theorem dX12_isFewer_7 : decode cX12_isFewer 7 = .ok (.iload_n 0, 1) := by decide +kernel
theorem dX12_isFewer_8 : decode cX12_isFewer 8 = .ok (.invokestatic 248, 3) := by decide +kernel
theorem dX12_isFewer_11 : decode cX12_isFewer 11 = .ok (.iload_n 1, 1) := by decide +kernel
theorem dX12_isFewer_12 : decode cX12_isFewer 12 = .ok (.invokestatic 248, 3) := by decide +kernel
theorem dX12_isFewer_15 : decode cX12_isFewer 15 = .ok (.isub, 1) := by decide +kernel
theorem dX12_isFewer_16 : decode cX12_isFewer 16 = .ok (.istore_n 2, 1) := by decide +kernel
theorem dX12_isFewer_17 : decode cX12_isFewer 17 = .ok (.iload_n 2, 1) := by decide +kernel
theorem dX12_isFewer_18 : decode cX12_isFewer 18 = .ok (.ifCond .lt 12, 3) := by decide +kernel
theorem dX12_isFewer_21 : decode cX12_isFewer 21 = .ok (.iload_n 2, 1) := by decide +kernel
theorem dX12_isFewer_22 : decode cX12_isFewer 22 = .ok (.ifCond .ne 12, 3) := by decide +kernel
theorem dX12_isFewer_25 : decode cX12_isFewer 25 = .ok (.iload_n 0, 1) := by decide +kernel
theorem dX12_isFewer_26 : decode cX12_isFewer 26 = .ok (.iload_n 1, 1) := by decide +kernel
theorem dX12_isFewer_27 : decode cX12_isFewer 27 = .ok (.if_icmp .ge 7, 3) := by decide +kernel
theorem dX12_isFewer_30 : decode cX12_isFewer 30 = .ok (.iconst 1, 1) := by decide +kernel
theorem dX12_isFewer_31 : decode cX12_isFewer 31 = .ok (.goto 4, 3) := by decide +kernel
theorem dX12_isFewer_34 : decode cX12_isFewer 34 = .ok (.iconst 0, 1) := by decide +kernel
theorem dX12_isFewer_35 : decode cX12_isFewer 35 = .ok (.ireturn, 1) := by decide +kernel
theorem dX12_slips_0 : decode cX12_slips 0 = .ok (.iload_n 1, 1) := by decide +kernel
theorem dX12_slips_1 : decode cX12_slips 1 = .ok (.ifCond .lt 24, 3) := by decide +kernel
theorem dX12_slips_4 : decode cX12_slips 4 = .ok (.iload_n 1, 1) := by decide +kernel
theorem dX12_slips_5 : decode cX12_slips 5 = .ok (.bipush 30, 2) := by decide +kernel
theorem dX12_slips_7 : decode cX12_slips 7 = .ok (.if_icmp .gt 18, 3) := by decide +kernel
theorem dX12_slips_10 : decode cX12_slips 10 = .ok (.iload_n 2, 1) := by decide +kernel
theorem dX12_slips_11 : decode cX12_slips 11 = .ok (.iconst 1, 1) := by decide +kernel
theorem dX12_slips_12 : decode cX12_slips 12 = .ok (.if_icmp .lt 13, 3) := by decide +kernel
theorem dX12_slips_15 : decode cX12_slips 15 = .ok (.iload_n 2, 1) := by decide +kernel
theorem dX12_slips_16 : decode cX12_slips 16 = .ok (.bipush 8, 2) := by decide +kernel
theorem dX12_slips_18 : decode cX12_slips 18 = .ok (.if_icmp .gt 7, 3) := by decide +kernel
theorem dX12_slips_21 : decode cX12_slips 21 = .ok (.iconst 1, 1) := by decide +kernel
theorem dX12_slips_22 : decode cX12_slips 22 = .ok (.goto 4, 3) := by decide +kernel
theorem dX12_slips_25 : decode cX12_slips 25 = .ok (.iconst 0, 1) := by decide +kernel
theorem dX12_slips_26 : decode cX12_slips 26 = .ok (.istore 4, 2) := by decide +kernel
theorem dX12_slips_28 : decode cX12_slips 28 = .ok (.iload 4, 2) := by decide +kernel
theorem dX12_slips_30 : decode cX12_slips 30 = .ok (.ifCond .eq 12, 3) := by decide +kernel
theorem dX12_slips_33 : decode cX12_slips 33 = .ok (.iload_n 3, 1) := by decide +kernel
theorem dX12_slips_34 : decode cX12_slips 34 = .ok (.ifCond .lt 8, 3) := by decide +kernel
theorem dX12_slips_37 : decode cX12_slips 37 = .ok (.iload_n 3, 1) := by decide +kernel
theorem dX12_slips_38 : decode cX12_slips 38 = .ok (.iload_n 2, 1) := by decide +kernel
theorem dX12_slips_39 : decode cX12_slips 39 = .ok (.if_icmp .le 5, 3) := by decide +kernel
theorem dX12_slips_42 : decode cX12_slips 42 = .ok (.iconst (-1), 1) := by decide +kernel
theorem dX12_slips_43 : decode cX12_slips 43 = .ok (.ireturn, 1) := by decide +kernel
theorem dX12_slips_44 : decode cX12_slips 44 = .ok (.aload_n 0, 1) := by decide +kernel
theorem dX12_slips_45 : decode cX12_slips 45 = .ok (.getfield 67, 3) := by decide +kernel
theorem dX12_slips_48 : decode cX12_slips 48 = .ok (.iconst 0, 1) := by decide +kernel
theorem dX12_slips_49 : decode cX12_slips 49 = .ok (.invokestatic 348, 3) := by decide +kernel
theorem dX12_slips_52 : decode cX12_slips 52 = .ok (.aload_n 0, 1) := by decide +kernel
theorem dX12_slips_53 : decode cX12_slips 53 = .ok (.getfield 67, 3) := by decide +kernel
theorem dX12_slips_56 : decode cX12_slips 56 = .ok (.iconst 0, 1) := by decide +kernel
theorem dX12_slips_57 : decode cX12_slips 57 = .ok (.ldc_w 357, 3) := by decide +kernel
theorem dX12_slips_60 : decode cX12_slips 60 = .ok (.iastore, 1) := by decide +kernel
theorem dX12_slips_61 : decode cX12_slips 61 = .ok (.iconst 0, 1) := by decide +kernel
theorem dX12_slips_62 : decode cX12_slips 62 = .ok (.istore 5, 2) := by decide +kernel
theorem dX12_slips_64 : decode cX12_slips 64 = .ok (.iload 5, 2) := by decide +kernel
theorem dX12_slips_66 : decode cX12_slips 66 = .ok (.iload_n 1, 1) := by decide +kernel
theorem dX12_slips_67 : decode cX12_slips 67 = .ok (.if_icmp .ge 14, 3) := by decide +kernel
theorem dX12_slips_70 : decode cX12_slips 70 = .ok (.aload_n 0, 1) := by decide +kernel
theorem dX12_slips_71 : decode cX12_slips 71 = .ok (.iload_n 2, 1) := by decide +kernel
theorem dX12_slips_72 : decode cX12_slips 72 = .ok (.invokevirtual 358, 3) := by decide +kernel
theorem dX12_slips_75 : decode cX12_slips 75 = .ok (.iinc 5 1, 3) := by decide +kernel
theorem dX12_slips_78 : decode cX12_slips 78 = .ok (.goto (-14), 3) := by decide +kernel
theorem dX12_slips_81 : decode cX12_slips 81 = .ok (.aload_n 0, 1) := by decide +kernel
theorem dX12_slips_82 : decode cX12_slips 82 = .ok (.getfield 67, 3) := by decide +kernel
theorem dX12_slips_85 : decode cX12_slips 85 = .ok (.iload_n 3, 1) := by decide +kernel
theorem dX12_slips_86 : decode cX12_slips 86 = .ok (.iaload, 1) := by decide +kernel
theorem dX12_slips_87 : decode cX12_slips 87 = .ok (.ireturn, 1) := by decide +kernel
theorem dX12_shareChances_0 : decode cX12_shareChances 0 = .ok (.aload_n 0, 1) := by decide +kernel
theorem dX12_shareChances_1 : decode cX12_shareChances 1 = .ok (.getfield 70, 3) := by decide +kernel
theorem dX12_shareChances_4 : decode cX12_shareChances 4 = .ok (.iconst 0, 1) := by decide +kernel
theorem dX12_shareChances_5 : decode cX12_shareChances 5 = .ok (.invokestatic 348, 3) := by decide +kernel
theorem dX12_shareChances_8 : decode cX12_shareChances 8 = .ok (.iconst 0, 1) := by decide +kernel
theorem dX12_shareChances_9 : decode cX12_shareChances 9 = .ok (.istore_n 2, 1) := by decide +kernel
theorem dX12_shareChances_10 : decode cX12_shareChances 10 = .ok (.iload_n 2, 1) := by decide +kernel
theorem dX12_shareChances_11 : decode cX12_shareChances 11 = .ok (.iload_n 1, 1) := by decide +kernel
theorem dX12_shareChances_12 : decode cX12_shareChances 12 = .ok (.if_icmp .gt 62, 3) := by decide +kernel
theorem dX12_shareChances_15 : decode cX12_shareChances 15 = .ok (.iload_n 2, 1) := by decide +kernel
theorem dX12_shareChances_16 : decode cX12_shareChances 16 = .ok (.iload_n 1, 1) := by decide +kernel
theorem dX12_shareChances_17 : decode cX12_shareChances 17 = .ok (.if_icmp .ge 26, 3) := by decide +kernel
theorem dX12_shareChances_20 : decode cX12_shareChances 20 = .ok (.aload_n 0, 1) := by decide +kernel
theorem dX12_shareChances_21 : decode cX12_shareChances 21 = .ok (.getfield 70, 3) := by decide +kernel
theorem dX12_shareChances_24 : decode cX12_shareChances 24 = .ok (.iload_n 2, 1) := by decide +kernel
theorem dX12_shareChances_25 : decode cX12_shareChances 25 = .ok (.iconst 1, 1) := by decide +kernel
theorem dX12_shareChances_26 : decode cX12_shareChances 26 = .ok (.iadd, 1) := by decide +kernel
theorem dX12_shareChances_27 : decode cX12_shareChances 27 = .ok (.dup2, 1) := by decide +kernel
theorem dX12_shareChances_28 : decode cX12_shareChances 28 = .ok (.iaload, 1) := by decide +kernel
theorem dX12_shareChances_29 : decode cX12_shareChances 29 = .ok (.aload_n 0, 1) := by decide +kernel
theorem dX12_shareChances_30 : decode cX12_shareChances 30 = .ok (.getfield 67, 3) := by decide +kernel
theorem dX12_shareChances_33 : decode cX12_shareChances 33 = .ok (.iload_n 2, 1) := by decide +kernel
theorem dX12_shareChances_34 : decode cX12_shareChances 34 = .ok (.iaload, 1) := by decide +kernel
theorem dX12_shareChances_35 : decode cX12_shareChances 35 = .ok (.iload_n 1, 1) := by decide +kernel
theorem dX12_shareChances_36 : decode cX12_shareChances 36 = .ok (.iload_n 2, 1) := by decide +kernel
theorem dX12_shareChances_37 : decode cX12_shareChances 37 = .ok (.isub, 1) := by decide +kernel
theorem dX12_shareChances_38 : decode cX12_shareChances 38 = .ok (.imul, 1) := by decide +kernel
theorem dX12_shareChances_39 : decode cX12_shareChances 39 = .ok (.iload_n 1, 1) := by decide +kernel
theorem dX12_shareChances_40 : decode cX12_shareChances 40 = .ok (.idiv, 1) := by decide +kernel
theorem dX12_shareChances_41 : decode cX12_shareChances 41 = .ok (.iadd, 1) := by decide +kernel
theorem dX12_shareChances_42 : decode cX12_shareChances 42 = .ok (.iastore, 1) := by decide +kernel
theorem dX12_shareChances_43 : decode cX12_shareChances 43 = .ok (.iload_n 2, 1) := by decide +kernel
theorem dX12_shareChances_44 : decode cX12_shareChances 44 = .ok (.ifCond .le 24, 3) := by decide +kernel
theorem dX12_shareChances_47 : decode cX12_shareChances 47 = .ok (.aload_n 0, 1) := by decide +kernel
theorem dX12_shareChances_48 : decode cX12_shareChances 48 = .ok (.getfield 70, 3) := by decide +kernel
theorem dX12_shareChances_51 : decode cX12_shareChances 51 = .ok (.iload_n 2, 1) := by decide +kernel
theorem dX12_shareChances_52 : decode cX12_shareChances 52 = .ok (.iconst 1, 1) := by decide +kernel
theorem dX12_shareChances_53 : decode cX12_shareChances 53 = .ok (.isub, 1) := by decide +kernel
theorem dX12_shareChances_54 : decode cX12_shareChances 54 = .ok (.dup2, 1) := by decide +kernel
theorem dX12_shareChances_55 : decode cX12_shareChances 55 = .ok (.iaload, 1) := by decide +kernel
theorem dX12_shareChances_56 : decode cX12_shareChances 56 = .ok (.aload_n 0, 1) := by decide +kernel
theorem dX12_shareChances_57 : decode cX12_shareChances 57 = .ok (.getfield 67, 3) := by decide +kernel
theorem dX12_shareChances_60 : decode cX12_shareChances 60 = .ok (.iload_n 2, 1) := by decide +kernel
theorem dX12_shareChances_61 : decode cX12_shareChances 61 = .ok (.iaload, 1) := by decide +kernel
theorem dX12_shareChances_62 : decode cX12_shareChances 62 = .ok (.iload_n 2, 1) := by decide +kernel
theorem dX12_shareChances_63 : decode cX12_shareChances 63 = .ok (.imul, 1) := by decide +kernel
theorem dX12_shareChances_64 : decode cX12_shareChances 64 = .ok (.iload_n 1, 1) := by decide +kernel
theorem dX12_shareChances_65 : decode cX12_shareChances 65 = .ok (.idiv, 1) := by decide +kernel
theorem dX12_shareChances_66 : decode cX12_shareChances 66 = .ok (.iadd, 1) := by decide +kernel
theorem dX12_shareChances_67 : decode cX12_shareChances 67 = .ok (.iastore, 1) := by decide +kernel
theorem dX12_shareChances_68 : decode cX12_shareChances 68 = .ok (.iinc 2 1, 3) := by decide +kernel
theorem dX12_shareChances_71 : decode cX12_shareChances 71 = .ok (.goto (-61), 3) := by decide +kernel
theorem dX12_shareChances_74 : decode cX12_shareChances 74 = .ok (.aload_n 0, 1) := by decide +kernel
theorem dX12_shareChances_75 : decode cX12_shareChances 75 = .ok (.getfield 70, 3) := by decide +kernel
theorem dX12_shareChances_78 : decode cX12_shareChances 78 = .ok (.iconst 0, 1) := by decide +kernel
theorem dX12_shareChances_79 : decode cX12_shareChances 79 = .ok (.aload_n 0, 1) := by decide +kernel
theorem dX12_shareChances_80 : decode cX12_shareChances 80 = .ok (.getfield 67, 3) := by decide +kernel
theorem dX12_shareChances_83 : decode cX12_shareChances 83 = .ok (.iconst 0, 1) := by decide +kernel
theorem dX12_shareChances_84 : decode cX12_shareChances 84 = .ok (.aload_n 0, 1) := by decide +kernel
theorem dX12_shareChances_85 : decode cX12_shareChances 85 = .ok (.getfield 67, 3) := by decide +kernel
theorem dX12_shareChances_88 : decode cX12_shareChances 88 = .ok (.arraylength, 1) := by decide +kernel
theorem dX12_shareChances_89 : decode cX12_shareChances 89 = .ok (.invokestatic 362, 3) := by decide +kernel
theorem dX12_shareChances_92 : decode cX12_shareChances 92 = .ok (.return_, 1) := by decide +kernel
theorem dX13_thrown_0 : decode cX13_thrown 0 = .ok (.aload_n 0, 1) := by decide +kernel
theorem dX13_thrown_1 : decode cX13_thrown 1 = .ok (.getfield 1, 3) := by decide +kernel
theorem dX13_thrown_4 : decode cX13_thrown 4 = .ok (.ireturn, 1) := by decide +kernel
theorem dX13_feed_0 : decode cX13_feed 0 = .ok (.aload_n 0, 1) := by decide +kernel
theorem dX13_feed_1 : decode cX13_feed 1 = .ok (.iconst 0, 1) := by decide +kernel
theorem dX13_feed_2 : decode cX13_feed 2 = .ok (.putfield 1, 3) := by decide +kernel
theorem dX13_feed_5 : decode cX13_feed 5 = .ok (.aload_n 0, 1) := by decide +kernel
theorem dX13_feed_6 : decode cX13_feed 6 = .ok (.lload_n 1, 1) := by decide +kernel
theorem dX13_feed_7 : decode cX13_feed 7 = .ok (.invokevirtual 7, 3) := by decide +kernel
theorem dX13_feed_10 : decode cX13_feed 10 = .ok (.aload_n 0, 1) := by decide +kernel
theorem dX13_feed_11 : decode cX13_feed 11 = .ok (.lload_n 3, 1) := by decide +kernel
theorem dX13_feed_12 : decode cX13_feed 12 = .ok (.invokevirtual 7, 3) := by decide +kernel
theorem dX13_feed_15 : decode cX13_feed 15 = .ok (.aload_n 0, 1) := by decide +kernel
theorem dX13_feed_16 : decode cX13_feed 16 = .ok (.lload 5, 2) := by decide +kernel
theorem dX13_feed_18 : decode cX13_feed 18 = .ok (.invokevirtual 7, 3) := by decide +kernel
theorem dX13_feed_21 : decode cX13_feed 21 = .ok (.aload_n 0, 1) := by decide +kernel
theorem dX13_feed_22 : decode cX13_feed 22 = .ok (.getfield 11, 3) := by decide +kernel
theorem dX13_feed_25 : decode cX13_feed 25 = .ok (.ireturn, 1) := by decide +kernel
theorem dX13_lay_0 : decode cX13_lay 0 = .ok (.bipush 56, 2) := by decide +kernel
theorem dX13_lay_2 : decode cX13_lay 2 = .ok (.istore_n 3, 1) := by decide +kernel
theorem dX13_lay_3 : decode cX13_lay 3 = .ok (.iload_n 3, 1) := by decide +kernel
theorem dX13_lay_4 : decode cX13_lay 4 = .ok (.ifCond .lt 71, 3) := by decide +kernel
theorem dX13_lay_7 : decode cX13_lay 7 = .ok (.lload_n 1, 1) := by decide +kernel
theorem dX13_lay_8 : decode cX13_lay 8 = .ok (.iload_n 3, 1) := by decide +kernel
theorem dX13_lay_9 : decode cX13_lay 9 = .ok (.lshr, 1) := by decide +kernel
theorem dX13_lay_10 : decode cX13_lay 10 = .ok (.l2i, 1) := by decide +kernel
theorem dX13_lay_11 : decode cX13_lay 11 = .ok (.sipush 255, 3) := by decide +kernel
theorem dX13_lay_14 : decode cX13_lay 14 = .ok (.iand, 1) := by decide +kernel
theorem dX13_lay_15 : decode cX13_lay 15 = .ok (.istore 4, 2) := by decide +kernel
theorem dX13_lay_17 : decode cX13_lay 17 = .ok (.iload 4, 2) := by decide +kernel
theorem dX13_lay_19 : decode cX13_lay 19 = .ok (.bipush 10, 2) := by decide +kernel
theorem dX13_lay_21 : decode cX13_lay 21 = .ok (.if_icmp .eq 17, 3) := by decide +kernel
theorem dX13_lay_24 : decode cX13_lay 24 = .ok (.iload 4, 2) := by decide +kernel
theorem dX13_lay_26 : decode cX13_lay 26 = .ok (.bipush 32, 2) := by decide +kernel
theorem dX13_lay_28 : decode cX13_lay 28 = .ok (.if_icmp .lt 41, 3) := by decide +kernel
theorem dX13_lay_31 : decode cX13_lay 31 = .ok (.iload 4, 2) := by decide +kernel
theorem dX13_lay_33 : decode cX13_lay 33 = .ok (.bipush 126, 2) := by decide +kernel
theorem dX13_lay_35 : decode cX13_lay 35 = .ok (.if_icmp .gt 34, 3) := by decide +kernel
theorem dX13_lay_38 : decode cX13_lay 38 = .ok (.aload_n 0, 1) := by decide +kernel
theorem dX13_lay_39 : decode cX13_lay 39 = .ok (.getfield 11, 3) := by decide +kernel
theorem dX13_lay_42 : decode cX13_lay 42 = .ok (.sipush 1000, 3) := by decide +kernel
theorem dX13_lay_45 : decode cX13_lay 45 = .ok (.if_icmp .ge 24, 3) := by decide +kernel
theorem dX13_lay_48 : decode cX13_lay 48 = .ok (.aload_n 0, 1) := by decide +kernel
theorem dX13_lay_49 : decode cX13_lay 49 = .ok (.getfield 14, 3) := by decide +kernel
theorem dX13_lay_52 : decode cX13_lay 52 = .ok (.aload_n 0, 1) := by decide +kernel
theorem dX13_lay_53 : decode cX13_lay 53 = .ok (.getfield 11, 3) := by decide +kernel
theorem dX13_lay_56 : decode cX13_lay 56 = .ok (.iload 4, 2) := by decide +kernel
theorem dX13_lay_58 : decode cX13_lay 58 = .ok (.iastore, 1) := by decide +kernel
theorem dX13_lay_59 : decode cX13_lay 59 = .ok (.aload_n 0, 1) := by decide +kernel
theorem dX13_lay_60 : decode cX13_lay 60 = .ok (.dup, 1) := by decide +kernel
theorem dX13_lay_61 : decode cX13_lay 61 = .ok (.getfield 11, 3) := by decide +kernel
theorem dX13_lay_64 : decode cX13_lay 64 = .ok (.iconst 1, 1) := by decide +kernel
theorem dX13_lay_65 : decode cX13_lay 65 = .ok (.iadd, 1) := by decide +kernel
theorem dX13_lay_66 : decode cX13_lay 66 = .ok (.putfield 11, 3) := by decide +kernel
theorem dX13_lay_69 : decode cX13_lay 69 = .ok (.iinc 3 (-8), 3) := by decide +kernel
theorem dX13_lay_72 : decode cX13_lay 72 = .ok (.goto (-69), 3) := by decide +kernel
theorem dX13_lay_75 : decode cX13_lay 75 = .ok (.return_, 1) := by decide +kernel
theorem dX13_init_0 : decode cX13_init 0 = .ok (.aload_n 0, 1) := by decide +kernel
theorem dX13_init_1 : decode cX13_init 1 = .ok (.invokespecial 18, 3) := by decide +kernel
theorem dX13_init_4 : decode cX13_init 4 = .ok (.aload_n 0, 1) := by decide +kernel
theorem dX13_init_5 : decode cX13_init 5 = .ok (.sipush 1000, 3) := by decide +kernel
theorem dX13_init_8 : decode cX13_init 8 = .ok (.newarray .int, 2) := by decide +kernel
theorem dX13_init_10 : decode cX13_init 10 = .ok (.putfield 14, 3) := by decide +kernel
theorem dX13_init_13 : decode cX13_init 13 = .ok (.aload_n 0, 1) := by decide +kernel
theorem dX13_init_14 : decode cX13_init 14 = .ok (.sipush 1002, 3) := by decide +kernel
theorem dX13_init_17 : decode cX13_init 17 = .ok (.newarray .int, 2) := by decide +kernel
theorem dX13_init_19 : decode cX13_init 19 = .ok (.putfield 24, 3) := by decide +kernel
theorem dX13_init_22 : decode cX13_init 22 = .ok (.aload_n 0, 1) := by decide +kernel
theorem dX13_init_23 : decode cX13_init 23 = .ok (.sipush 1002, 3) := by decide +kernel
theorem dX13_init_26 : decode cX13_init 26 = .ok (.newarray .int, 2) := by decide +kernel
theorem dX13_init_28 : decode cX13_init 28 = .ok (.putfield 27, 3) := by decide +kernel
theorem dX13_init_31 : decode cX13_init 31 = .ok (.aload_n 0, 1) := by decide +kernel
theorem dX13_init_32 : decode cX13_init 32 = .ok (.sipush 1002, 3) := by decide +kernel
theorem dX13_init_35 : decode cX13_init 35 = .ok (.newarray .long, 2) := by decide +kernel
theorem dX13_init_37 : decode cX13_init 37 = .ok (.putfield 30, 3) := by decide +kernel
theorem dX13_init_40 : decode cX13_init 40 = .ok (.aload_n 0, 1) := by decide +kernel
theorem dX13_init_41 : decode cX13_init 41 = .ok (.bipush 29, 2) := by decide +kernel
theorem dX13_init_43 : decode cX13_init 43 = .ok (.newarray .long, 2) := by decide +kernel
theorem dX13_init_45 : decode cX13_init 45 = .ok (.dup, 1) := by decide +kernel
theorem dX13_init_46 : decode cX13_init 46 = .ok (.iconst 0, 1) := by decide +kernel
theorem dX13_init_47 : decode cX13_init 47 = .ok (.ldc2_w 34, 3) := by decide +kernel
theorem dX13_init_50 : decode cX13_init 50 = .ok (.lastore, 1) := by decide +kernel
theorem dX13_init_51 : decode cX13_init 51 = .ok (.dup, 1) := by decide +kernel
theorem dX13_init_52 : decode cX13_init 52 = .ok (.iconst 1, 1) := by decide +kernel
theorem dX13_init_53 : decode cX13_init 53 = .ok (.ldc2_w 36, 3) := by decide +kernel
theorem dX13_init_56 : decode cX13_init 56 = .ok (.lastore, 1) := by decide +kernel
theorem dX13_init_57 : decode cX13_init 57 = .ok (.dup, 1) := by decide +kernel
theorem dX13_init_58 : decode cX13_init 58 = .ok (.iconst 2, 1) := by decide +kernel
theorem dX13_init_59 : decode cX13_init 59 = .ok (.ldc2_w 38, 3) := by decide +kernel
theorem dX13_init_62 : decode cX13_init 62 = .ok (.lastore, 1) := by decide +kernel
theorem dX13_init_63 : decode cX13_init 63 = .ok (.dup, 1) := by decide +kernel
theorem dX13_init_64 : decode cX13_init 64 = .ok (.iconst 3, 1) := by decide +kernel
theorem dX13_init_65 : decode cX13_init 65 = .ok (.ldc2_w 40, 3) := by decide +kernel
theorem dX13_init_68 : decode cX13_init 68 = .ok (.lastore, 1) := by decide +kernel
theorem dX13_init_69 : decode cX13_init 69 = .ok (.dup, 1) := by decide +kernel
theorem dX13_init_70 : decode cX13_init 70 = .ok (.iconst 4, 1) := by decide +kernel
theorem dX13_init_71 : decode cX13_init 71 = .ok (.ldc2_w 42, 3) := by decide +kernel
theorem dX13_init_74 : decode cX13_init 74 = .ok (.lastore, 1) := by decide +kernel
theorem dX13_init_75 : decode cX13_init 75 = .ok (.dup, 1) := by decide +kernel
theorem dX13_init_76 : decode cX13_init 76 = .ok (.iconst 5, 1) := by decide +kernel
theorem dX13_init_77 : decode cX13_init 77 = .ok (.ldc2_w 44, 3) := by decide +kernel
theorem dX13_init_80 : decode cX13_init 80 = .ok (.lastore, 1) := by decide +kernel
theorem dX13_init_81 : decode cX13_init 81 = .ok (.dup, 1) := by decide +kernel
theorem dX13_init_82 : decode cX13_init 82 = .ok (.bipush 6, 2) := by decide +kernel
theorem dX13_init_84 : decode cX13_init 84 = .ok (.ldc2_w 46, 3) := by decide +kernel
theorem dX13_init_87 : decode cX13_init 87 = .ok (.lastore, 1) := by decide +kernel
theorem dX13_init_88 : decode cX13_init 88 = .ok (.dup, 1) := by decide +kernel
theorem dX13_init_89 : decode cX13_init 89 = .ok (.bipush 7, 2) := by decide +kernel
theorem dX13_init_91 : decode cX13_init 91 = .ok (.ldc2_w 48, 3) := by decide +kernel
theorem dX13_init_94 : decode cX13_init 94 = .ok (.lastore, 1) := by decide +kernel
theorem dX13_init_95 : decode cX13_init 95 = .ok (.dup, 1) := by decide +kernel
theorem dX13_init_96 : decode cX13_init 96 = .ok (.bipush 8, 2) := by decide +kernel
theorem dX13_init_98 : decode cX13_init 98 = .ok (.ldc2_w 50, 3) := by decide +kernel
theorem dX13_init_101 : decode cX13_init 101 = .ok (.lastore, 1) := by decide +kernel
theorem dX13_init_102 : decode cX13_init 102 = .ok (.dup, 1) := by decide +kernel
theorem dX13_init_103 : decode cX13_init 103 = .ok (.bipush 9, 2) := by decide +kernel
theorem dX13_init_105 : decode cX13_init 105 = .ok (.ldc2_w 52, 3) := by decide +kernel
theorem dX13_init_108 : decode cX13_init 108 = .ok (.lastore, 1) := by decide +kernel
theorem dX13_init_109 : decode cX13_init 109 = .ok (.dup, 1) := by decide +kernel
theorem dX13_init_110 : decode cX13_init 110 = .ok (.bipush 10, 2) := by decide +kernel
theorem dX13_init_112 : decode cX13_init 112 = .ok (.ldc2_w 54, 3) := by decide +kernel
theorem dX13_init_115 : decode cX13_init 115 = .ok (.lastore, 1) := by decide +kernel
theorem dX13_init_116 : decode cX13_init 116 = .ok (.dup, 1) := by decide +kernel
theorem dX13_init_117 : decode cX13_init 117 = .ok (.bipush 11, 2) := by decide +kernel
theorem dX13_init_119 : decode cX13_init 119 = .ok (.ldc2_w 56, 3) := by decide +kernel
theorem dX13_init_122 : decode cX13_init 122 = .ok (.lastore, 1) := by decide +kernel
theorem dX13_init_123 : decode cX13_init 123 = .ok (.dup, 1) := by decide +kernel
theorem dX13_init_124 : decode cX13_init 124 = .ok (.bipush 12, 2) := by decide +kernel
theorem dX13_init_126 : decode cX13_init 126 = .ok (.ldc2_w 58, 3) := by decide +kernel
theorem dX13_init_129 : decode cX13_init 129 = .ok (.lastore, 1) := by decide +kernel
theorem dX13_init_130 : decode cX13_init 130 = .ok (.dup, 1) := by decide +kernel
theorem dX13_init_131 : decode cX13_init 131 = .ok (.bipush 13, 2) := by decide +kernel
theorem dX13_init_133 : decode cX13_init 133 = .ok (.ldc2_w 60, 3) := by decide +kernel
theorem dX13_init_136 : decode cX13_init 136 = .ok (.lastore, 1) := by decide +kernel
theorem dX13_init_137 : decode cX13_init 137 = .ok (.dup, 1) := by decide +kernel
theorem dX13_init_138 : decode cX13_init 138 = .ok (.bipush 14, 2) := by decide +kernel
theorem dX13_init_140 : decode cX13_init 140 = .ok (.ldc2_w 62, 3) := by decide +kernel
theorem dX13_init_143 : decode cX13_init 143 = .ok (.lastore, 1) := by decide +kernel
theorem dX13_init_144 : decode cX13_init 144 = .ok (.dup, 1) := by decide +kernel
theorem dX13_init_145 : decode cX13_init 145 = .ok (.bipush 15, 2) := by decide +kernel
theorem dX13_init_147 : decode cX13_init 147 = .ok (.ldc2_w 64, 3) := by decide +kernel
theorem dX13_init_150 : decode cX13_init 150 = .ok (.lastore, 1) := by decide +kernel
theorem dX13_init_151 : decode cX13_init 151 = .ok (.dup, 1) := by decide +kernel
theorem dX13_init_152 : decode cX13_init 152 = .ok (.bipush 16, 2) := by decide +kernel
theorem dX13_init_154 : decode cX13_init 154 = .ok (.ldc2_w 66, 3) := by decide +kernel
theorem dX13_init_157 : decode cX13_init 157 = .ok (.lastore, 1) := by decide +kernel
theorem dX13_init_158 : decode cX13_init 158 = .ok (.dup, 1) := by decide +kernel
theorem dX13_init_159 : decode cX13_init 159 = .ok (.bipush 17, 2) := by decide +kernel
theorem dX13_init_161 : decode cX13_init 161 = .ok (.ldc2_w 68, 3) := by decide +kernel
theorem dX13_init_164 : decode cX13_init 164 = .ok (.lastore, 1) := by decide +kernel
theorem dX13_init_165 : decode cX13_init 165 = .ok (.dup, 1) := by decide +kernel
theorem dX13_init_166 : decode cX13_init 166 = .ok (.bipush 18, 2) := by decide +kernel
theorem dX13_init_168 : decode cX13_init 168 = .ok (.ldc2_w 70, 3) := by decide +kernel
theorem dX13_init_171 : decode cX13_init 171 = .ok (.lastore, 1) := by decide +kernel
theorem dX13_init_172 : decode cX13_init 172 = .ok (.dup, 1) := by decide +kernel
theorem dX13_init_173 : decode cX13_init 173 = .ok (.bipush 19, 2) := by decide +kernel
theorem dX13_init_175 : decode cX13_init 175 = .ok (.ldc2_w 72, 3) := by decide +kernel
theorem dX13_init_178 : decode cX13_init 178 = .ok (.lastore, 1) := by decide +kernel
theorem dX13_init_179 : decode cX13_init 179 = .ok (.dup, 1) := by decide +kernel
theorem dX13_init_180 : decode cX13_init 180 = .ok (.bipush 20, 2) := by decide +kernel
theorem dX13_init_182 : decode cX13_init 182 = .ok (.ldc2_w 74, 3) := by decide +kernel
theorem dX13_init_185 : decode cX13_init 185 = .ok (.lastore, 1) := by decide +kernel
theorem dX13_init_186 : decode cX13_init 186 = .ok (.dup, 1) := by decide +kernel
theorem dX13_init_187 : decode cX13_init 187 = .ok (.bipush 21, 2) := by decide +kernel
theorem dX13_init_189 : decode cX13_init 189 = .ok (.ldc2_w 76, 3) := by decide +kernel
theorem dX13_init_192 : decode cX13_init 192 = .ok (.lastore, 1) := by decide +kernel
theorem dX13_init_193 : decode cX13_init 193 = .ok (.dup, 1) := by decide +kernel
theorem dX13_init_194 : decode cX13_init 194 = .ok (.bipush 22, 2) := by decide +kernel
theorem dX13_init_196 : decode cX13_init 196 = .ok (.ldc2_w 78, 3) := by decide +kernel
theorem dX13_init_199 : decode cX13_init 199 = .ok (.lastore, 1) := by decide +kernel
theorem dX13_init_200 : decode cX13_init 200 = .ok (.dup, 1) := by decide +kernel
theorem dX13_init_201 : decode cX13_init 201 = .ok (.bipush 23, 2) := by decide +kernel
theorem dX13_init_203 : decode cX13_init 203 = .ok (.ldc2_w 80, 3) := by decide +kernel
theorem dX13_init_206 : decode cX13_init 206 = .ok (.lastore, 1) := by decide +kernel
theorem dX13_init_207 : decode cX13_init 207 = .ok (.dup, 1) := by decide +kernel
theorem dX13_init_208 : decode cX13_init 208 = .ok (.bipush 24, 2) := by decide +kernel
theorem dX13_init_210 : decode cX13_init 210 = .ok (.ldc2_w 82, 3) := by decide +kernel
theorem dX13_init_213 : decode cX13_init 213 = .ok (.lastore, 1) := by decide +kernel
theorem dX13_init_214 : decode cX13_init 214 = .ok (.dup, 1) := by decide +kernel
theorem dX13_init_215 : decode cX13_init 215 = .ok (.bipush 25, 2) := by decide +kernel
theorem dX13_init_217 : decode cX13_init 217 = .ok (.ldc2_w 84, 3) := by decide +kernel
theorem dX13_init_220 : decode cX13_init 220 = .ok (.lastore, 1) := by decide +kernel
theorem dX13_init_221 : decode cX13_init 221 = .ok (.dup, 1) := by decide +kernel
theorem dX13_init_222 : decode cX13_init 222 = .ok (.bipush 26, 2) := by decide +kernel
theorem dX13_init_224 : decode cX13_init 224 = .ok (.ldc2_w 86, 3) := by decide +kernel
theorem dX13_init_227 : decode cX13_init 227 = .ok (.lastore, 1) := by decide +kernel
theorem dX13_init_228 : decode cX13_init 228 = .ok (.dup, 1) := by decide +kernel
theorem dX13_init_229 : decode cX13_init 229 = .ok (.bipush 27, 2) := by decide +kernel
theorem dX13_init_231 : decode cX13_init 231 = .ok (.ldc2_w 88, 3) := by decide +kernel
theorem dX13_init_234 : decode cX13_init 234 = .ok (.lastore, 1) := by decide +kernel
theorem dX13_init_235 : decode cX13_init 235 = .ok (.dup, 1) := by decide +kernel
theorem dX13_init_236 : decode cX13_init 236 = .ok (.bipush 28, 2) := by decide +kernel
theorem dX13_init_238 : decode cX13_init 238 = .ok (.ldc2_w 90, 3) := by decide +kernel
theorem dX13_init_241 : decode cX13_init 241 = .ok (.lastore, 1) := by decide +kernel
theorem dX13_init_242 : decode cX13_init 242 = .ok (.putfield 92, 3) := by decide +kernel
theorem dX13_init_245 : decode cX13_init 245 = .ok (.aload_n 0, 1) := by decide +kernel
theorem dX13_init_246 : decode cX13_init 246 = .ok (.sipush 140, 3) := by decide +kernel
theorem dX13_init_249 : decode cX13_init 249 = .ok (.newarray .int, 2) := by decide +kernel
theorem dX13_init_251 : decode cX13_init 251 = .ok (.putfield 95, 3) := by decide +kernel
theorem dX13_init_254 : decode cX13_init 254 = .ok (.aload_n 0, 1) := by decide +kernel
theorem dX13_init_255 : decode cX13_init 255 = .ok (.sipush 2200, 3) := by decide +kernel
theorem dX13_init_258 : decode cX13_init 258 = .ok (.newarray .int, 2) := by decide +kernel
theorem dX13_init_260 : decode cX13_init 260 = .ok (.putfield 98, 3) := by decide +kernel
theorem dX13_init_263 : decode cX13_init 263 = .ok (.aload_n 0, 1) := by decide +kernel
theorem dX13_init_264 : decode cX13_init 264 = .ok (.sipush 2200, 3) := by decide +kernel
theorem dX13_init_267 : decode cX13_init 267 = .ok (.newarray .int, 2) := by decide +kernel
theorem dX13_init_269 : decode cX13_init 269 = .ok (.putfield 101, 3) := by decide +kernel
theorem dX13_init_272 : decode cX13_init 272 = .ok (.aload_n 0, 1) := by decide +kernel
theorem dX13_init_273 : decode cX13_init 273 = .ok (.bipush 18, 2) := by decide +kernel
theorem dX13_init_275 : decode cX13_init 275 = .ok (.newarray .long, 2) := by decide +kernel
theorem dX13_init_277 : decode cX13_init 277 = .ok (.putfield 104, 3) := by decide +kernel
theorem dX13_init_280 : decode cX13_init 280 = .ok (.aload_n 0, 1) := by decide +kernel
theorem dX13_init_281 : decode cX13_init 281 = .ok (.bipush 18, 2) := by decide +kernel
theorem dX13_init_283 : decode cX13_init 283 = .ok (.newarray .long, 2) := by decide +kernel
theorem dX13_init_285 : decode cX13_init 285 = .ok (.putfield 107, 3) := by decide +kernel
theorem dX13_init_288 : decode cX13_init 288 = .ok (.aload_n 0, 1) := by decide +kernel
theorem dX13_init_289 : decode cX13_init 289 = .ok (.bipush 18, 2) := by decide +kernel
theorem dX13_init_291 : decode cX13_init 291 = .ok (.newarray .int, 2) := by decide +kernel
theorem dX13_init_293 : decode cX13_init 293 = .ok (.putfield 110, 3) := by decide +kernel
theorem dX13_init_296 : decode cX13_init 296 = .ok (.aload_n 0, 1) := by decide +kernel
theorem dX13_init_297 : decode cX13_init 297 = .ok (.bipush 18, 2) := by decide +kernel
theorem dX13_init_299 : decode cX13_init 299 = .ok (.newarray .int, 2) := by decide +kernel
theorem dX13_init_301 : decode cX13_init 301 = .ok (.putfield 113, 3) := by decide +kernel
theorem dX13_init_304 : decode cX13_init 304 = .ok (.aload_n 0, 1) := by decide +kernel
theorem dX13_init_305 : decode cX13_init 305 = .ok (.sipush 250, 3) := by decide +kernel
theorem dX13_init_308 : decode cX13_init 308 = .ok (.newarray .int, 2) := by decide +kernel
theorem dX13_init_310 : decode cX13_init 310 = .ok (.putfield 116, 3) := by decide +kernel
theorem dX13_init_313 : decode cX13_init 313 = .ok (.aload_n 0, 1) := by decide +kernel
theorem dX13_init_314 : decode cX13_init 314 = .ok (.iconst 4, 1) := by decide +kernel
theorem dX13_init_315 : decode cX13_init 315 = .ok (.newarray .int, 2) := by decide +kernel
theorem dX13_init_317 : decode cX13_init 317 = .ok (.putfield 119, 3) := by decide +kernel
theorem dX13_init_320 : decode cX13_init 320 = .ok (.aload_n 0, 1) := by decide +kernel
theorem dX13_init_321 : decode cX13_init 321 = .ok (.sipush 1100, 3) := by decide +kernel
theorem dX13_init_324 : decode cX13_init 324 = .ok (.newarray .int, 2) := by decide +kernel
theorem dX13_init_326 : decode cX13_init 326 = .ok (.putfield 122, 3) := by decide +kernel
theorem dX13_init_329 : decode cX13_init 329 = .ok (.aload_n 0, 1) := by decide +kernel
theorem dX13_init_330 : decode cX13_init 330 = .ok (.sipush 1518, 3) := by decide +kernel
theorem dX13_init_333 : decode cX13_init 333 = .ok (.newarray .int, 2) := by decide +kernel
theorem dX13_init_335 : decode cX13_init 335 = .ok (.putfield 125, 3) := by decide +kernel
theorem dX13_init_338 : decode cX13_init 338 = .ok (.aload_n 0, 1) := by decide +kernel
theorem dX13_init_339 : decode cX13_init 339 = .ok (.iconst 4, 1) := by decide +kernel
theorem dX13_init_340 : decode cX13_init 340 = .ok (.newarray .boolean, 2) := by decide +kernel
theorem dX13_init_342 : decode cX13_init 342 = .ok (.putfield 128, 3) := by decide +kernel
theorem dX13_init_345 : decode cX13_init 345 = .ok (.aload_n 0, 1) := by decide +kernel
theorem dX13_init_346 : decode cX13_init 346 = .ok (.bipush 6, 2) := by decide +kernel
theorem dX13_init_348 : decode cX13_init 348 = .ok (.newarray .int, 2) := by decide +kernel
theorem dX13_init_350 : decode cX13_init 350 = .ok (.putfield 132, 3) := by decide +kernel
theorem dX13_init_353 : decode cX13_init 353 = .ok (.aload_n 0, 1) := by decide +kernel
theorem dX13_init_354 : decode cX13_init 354 = .ok (.bipush 6, 2) := by decide +kernel
theorem dX13_init_356 : decode cX13_init 356 = .ok (.newarray .int, 2) := by decide +kernel
theorem dX13_init_358 : decode cX13_init 358 = .ok (.putfield 135, 3) := by decide +kernel
theorem dX13_init_361 : decode cX13_init 361 = .ok (.aload_n 0, 1) := by decide +kernel
theorem dX13_init_362 : decode cX13_init 362 = .ok (.bipush 6, 2) := by decide +kernel
theorem dX13_init_364 : decode cX13_init 364 = .ok (.newarray .int, 2) := by decide +kernel
theorem dX13_init_366 : decode cX13_init 366 = .ok (.putfield 138, 3) := by decide +kernel
theorem dX13_init_369 : decode cX13_init 369 = .ok (.aload_n 0, 1) := by decide +kernel
theorem dX13_init_370 : decode cX13_init 370 = .ok (.iconst 5, 1) := by decide +kernel
theorem dX13_init_371 : decode cX13_init 371 = .ok (.newarray .int, 2) := by decide +kernel
theorem dX13_init_373 : decode cX13_init 373 = .ok (.putfield 141, 3) := by decide +kernel
theorem dX13_init_376 : decode cX13_init 376 = .ok (.aload_n 0, 1) := by decide +kernel
theorem dX13_init_377 : decode cX13_init 377 = .ok (.bipush 8, 2) := by decide +kernel
theorem dX13_init_379 : decode cX13_init 379 = .ok (.newarray .int, 2) := by decide +kernel
theorem dX13_init_381 : decode cX13_init 381 = .ok (.putfield 144, 3) := by decide +kernel
theorem dX13_init_384 : decode cX13_init 384 = .ok (.aload_n 0, 1) := by decide +kernel
theorem dX13_init_385 : decode cX13_init 385 = .ok (.bipush 8, 2) := by decide +kernel
theorem dX13_init_387 : decode cX13_init 387 = .ok (.newarray .int, 2) := by decide +kernel
theorem dX13_init_389 : decode cX13_init 389 = .ok (.putfield 147, 3) := by decide +kernel
theorem dX13_init_392 : decode cX13_init 392 = .ok (.aload_n 0, 1) := by decide +kernel
theorem dX13_init_393 : decode cX13_init 393 = .ok (.bipush 8, 2) := by decide +kernel
theorem dX13_init_395 : decode cX13_init 395 = .ok (.newarray .int, 2) := by decide +kernel
theorem dX13_init_397 : decode cX13_init 397 = .ok (.putfield 150, 3) := by decide +kernel
theorem dX13_init_400 : decode cX13_init 400 = .ok (.aload_n 0, 1) := by decide +kernel
theorem dX13_init_401 : decode cX13_init 401 = .ok (.bipush 10, 2) := by decide +kernel
theorem dX13_init_403 : decode cX13_init 403 = .ok (.newarray .int, 2) := by decide +kernel
theorem dX13_init_405 : decode cX13_init 405 = .ok (.putfield 153, 3) := by decide +kernel
theorem dX13_init_408 : decode cX13_init 408 = .ok (.aload_n 0, 1) := by decide +kernel
theorem dX13_init_409 : decode cX13_init 409 = .ok (.bipush 10, 2) := by decide +kernel
theorem dX13_init_411 : decode cX13_init 411 = .ok (.newarray .int, 2) := by decide +kernel
theorem dX13_init_413 : decode cX13_init 413 = .ok (.putfield 156, 3) := by decide +kernel
theorem dX13_init_416 : decode cX13_init 416 = .ok (.aload_n 0, 1) := by decide +kernel
theorem dX13_init_417 : decode cX13_init 417 = .ok (.iconst 0, 1) := by decide +kernel
theorem dX13_init_418 : decode cX13_init 418 = .ok (.invokevirtual 159, 3) := by decide +kernel
theorem dX13_init_421 : decode cX13_init 421 = .ok (.aload_n 0, 1) := by decide +kernel
theorem dX13_init_422 : decode cX13_init 422 = .ok (.invokevirtual 163, 3) := by decide +kernel
theorem dX13_init_425 : decode cX13_init 425 = .ok (.return_, 1) := by decide +kernel
theorem dX13_isLetter_0 : decode cX13_isLetter 0 = .ok (.iload_n 0, 1) := by decide +kernel
theorem dX13_isLetter_1 : decode cX13_isLetter 1 = .ok (.bipush 97, 2) := by decide +kernel
theorem dX13_isLetter_3 : decode cX13_isLetter 3 = .ok (.if_icmp .lt 13, 3) := by decide +kernel
theorem dX13_isLetter_6 : decode cX13_isLetter 6 = .ok (.iload_n 0, 1) := by decide +kernel
theorem dX13_isLetter_7 : decode cX13_isLetter 7 = .ok (.bipush 122, 2) := by decide +kernel
theorem dX13_isLetter_9 : decode cX13_isLetter 9 = .ok (.if_icmp .gt 7, 3) := by decide +kernel
theorem dX13_isLetter_12 : decode cX13_isLetter 12 = .ok (.iconst 1, 1) := by decide +kernel
theorem dX13_isLetter_13 : decode cX13_isLetter 13 = .ok (.goto 4, 3) := by decide +kernel
theorem dX13_isLetter_16 : decode cX13_isLetter 16 = .ok (.iconst 0, 1) := by decide +kernel
theorem dX13_isLetter_17 : decode cX13_isLetter 17 = .ok (.ireturn, 1) := by decide +kernel
theorem dX13_isDigit_0 : decode cX13_isDigit 0 = .ok (.iload_n 0, 1) := by decide +kernel
theorem dX13_isDigit_1 : decode cX13_isDigit 1 = .ok (.bipush 48, 2) := by decide +kernel
theorem dX13_isDigit_3 : decode cX13_isDigit 3 = .ok (.if_icmp .lt 13, 3) := by decide +kernel
theorem dX13_isDigit_6 : decode cX13_isDigit 6 = .ok (.iload_n 0, 1) := by decide +kernel
theorem dX13_isDigit_7 : decode cX13_isDigit 7 = .ok (.bipush 57, 2) := by decide +kernel
theorem dX13_isDigit_9 : decode cX13_isDigit 9 = .ok (.if_icmp .gt 7, 3) := by decide +kernel
theorem dX13_isDigit_12 : decode cX13_isDigit 12 = .ok (.iconst 1, 1) := by decide +kernel
theorem dX13_isDigit_13 : decode cX13_isDigit 13 = .ok (.goto 4, 3) := by decide +kernel
theorem dX13_isDigit_16 : decode cX13_isDigit 16 = .ok (.iconst 0, 1) := by decide +kernel
theorem dX13_isDigit_17 : decode cX13_isDigit 17 = .ok (.ireturn, 1) := by decide +kernel
theorem dX13_rank_0 : decode cX13_rank 0 = .ok (.iload_n 0, 1) := by decide +kernel
theorem dX13_rank_1 : decode cX13_rank 1 = .ok (.invokestatic 166, 3) := by decide +kernel
theorem dX13_rank_4 : decode cX13_rank 4 = .ok (.ifCond .eq 10, 3) := by decide +kernel
theorem dX13_rank_7 : decode cX13_rank 7 = .ok (.iload_n 0, 1) := by decide +kernel
theorem dX13_rank_8 : decode cX13_rank 8 = .ok (.bipush 96, 2) := by decide +kernel
theorem dX13_rank_10 : decode cX13_rank 10 = .ok (.isub, 1) := by decide +kernel
theorem dX13_rank_11 : decode cX13_rank 11 = .ok (.goto 7, 3) := by decide +kernel
theorem dX13_rank_14 : decode cX13_rank 14 = .ok (.iload_n 0, 1) := by decide +kernel
theorem dX13_rank_15 : decode cX13_rank 15 = .ok (.bipush 21, 2) := by decide +kernel
theorem dX13_rank_17 : decode cX13_rank 17 = .ok (.isub, 1) := by decide +kernel
theorem dX13_rank_18 : decode cX13_rank 18 = .ok (.ireturn, 1) := by decide +kernel
theorem dX13_isSignOf_0 : decode cX13_isSignOf 0 = .ok (.iload_n 0, 1) := by decide +kernel
theorem dX13_isSignOf_1 : decode cX13_isSignOf 1 = .ok (.bipush 40, 2) := by decide +kernel
theorem dX13_isSignOf_3 : decode cX13_isSignOf 3 = .ok (.if_icmp .eq 45, 3) := by decide +kernel
theorem dX13_isSignOf_6 : decode cX13_isSignOf 6 = .ok (.iload_n 0, 1) := by decide +kernel
theorem dX13_isSignOf_7 : decode cX13_isSignOf 7 = .ok (.bipush 41, 2) := by decide +kernel
theorem dX13_isSignOf_9 : decode cX13_isSignOf 9 = .ok (.if_icmp .eq 39, 3) := by decide +kernel
theorem dX13_isSignOf_12 : decode cX13_isSignOf 12 = .ok (.iload_n 0, 1) := by decide +kernel
theorem dX13_isSignOf_13 : decode cX13_isSignOf 13 = .ok (.bipush 59, 2) := by decide +kernel
theorem dX13_isSignOf_15 : decode cX13_isSignOf 15 = .ok (.if_icmp .eq 33, 3) := by decide +kernel
theorem dX13_isSignOf_18 : decode cX13_isSignOf 18 = .ok (.iload_n 0, 1) := by decide +kernel
theorem dX13_isSignOf_19 : decode cX13_isSignOf 19 = .ok (.bipush 61, 2) := by decide +kernel
theorem dX13_isSignOf_21 : decode cX13_isSignOf 21 = .ok (.if_icmp .eq 27, 3) := by decide +kernel
theorem dX13_isSignOf_24 : decode cX13_isSignOf 24 = .ok (.iload_n 0, 1) := by decide +kernel
theorem dX13_isSignOf_25 : decode cX13_isSignOf 25 = .ok (.bipush 60, 2) := by decide +kernel
theorem dX13_isSignOf_27 : decode cX13_isSignOf 27 = .ok (.if_icmp .eq 21, 3) := by decide +kernel
theorem dX13_isSignOf_30 : decode cX13_isSignOf 30 = .ok (.iload_n 0, 1) := by decide +kernel
theorem dX13_isSignOf_31 : decode cX13_isSignOf 31 = .ok (.bipush 43, 2) := by decide +kernel
theorem dX13_isSignOf_33 : decode cX13_isSignOf 33 = .ok (.if_icmp .eq 15, 3) := by decide +kernel
theorem dX13_isSignOf_36 : decode cX13_isSignOf 36 = .ok (.iload_n 0, 1) := by decide +kernel
theorem dX13_isSignOf_37 : decode cX13_isSignOf 37 = .ok (.bipush 45, 2) := by decide +kernel
theorem dX13_isSignOf_39 : decode cX13_isSignOf 39 = .ok (.if_icmp .eq 9, 3) := by decide +kernel
theorem dX13_isSignOf_42 : decode cX13_isSignOf 42 = .ok (.iload_n 0, 1) := by decide +kernel
theorem dX13_isSignOf_43 : decode cX13_isSignOf 43 = .ok (.bipush 42, 2) := by decide +kernel
theorem dX13_isSignOf_45 : decode cX13_isSignOf 45 = .ok (.if_icmp .ne 7, 3) := by decide +kernel
theorem dX13_isSignOf_48 : decode cX13_isSignOf 48 = .ok (.iconst 1, 1) := by decide +kernel
theorem dX13_isSignOf_49 : decode cX13_isSignOf 49 = .ok (.goto 4, 3) := by decide +kernel
theorem dX13_isSignOf_52 : decode cX13_isSignOf 52 = .ok (.iconst 0, 1) := by decide +kernel
theorem dX13_isSignOf_53 : decode cX13_isSignOf 53 = .ok (.ireturn, 1) := by decide +kernel
theorem dX13_cutAll_0 : decode cX13_cutAll 0 = .ok (.aload_n 0, 1) := by decide +kernel
theorem dX13_cutAll_1 : decode cX13_cutAll 1 = .ok (.aload_n 0, 1) := by decide +kernel
theorem dX13_cutAll_2 : decode cX13_cutAll 2 = .ok (.getfield 11, 3) := by decide +kernel
theorem dX13_cutAll_5 : decode cX13_cutAll 5 = .ok (.putfield 170, 3) := by decide +kernel
theorem dX13_cutAll_8 : decode cX13_cutAll 8 = .ok (.aload_n 0, 1) := by decide +kernel
theorem dX13_cutAll_9 : decode cX13_cutAll 9 = .ok (.iconst 0, 1) := by decide +kernel
theorem dX13_cutAll_10 : decode cX13_cutAll 10 = .ok (.putfield 11, 3) := by decide +kernel
theorem dX13_cutAll_13 : decode cX13_cutAll 13 = .ok (.iconst 0, 1) := by decide +kernel
theorem dX13_cutAll_14 : decode cX13_cutAll 14 = .ok (.istore_n 1, 1) := by decide +kernel
theorem dX13_cutAll_15 : decode cX13_cutAll 15 = .ok (.iconst 0, 1) := by decide +kernel
theorem dX13_cutAll_16 : decode cX13_cutAll 16 = .ok (.istore_n 2, 1) := by decide +kernel
theorem dX13_cutAll_17 : decode cX13_cutAll 17 = .ok (.iload_n 2, 1) := by decide +kernel
theorem dX13_cutAll_18 : decode cX13_cutAll 18 = .ok (.aload_n 0, 1) := by decide +kernel
theorem dX13_cutAll_19 : decode cX13_cutAll 19 = .ok (.getfield 170, 3) := by decide +kernel
theorem dX13_cutAll_22 : decode cX13_cutAll 22 = .ok (.if_icmp .ge 257, 3) := by decide +kernel
theorem dX13_cutAll_25 : decode cX13_cutAll 25 = .ok (.aload_n 0, 1) := by decide +kernel
theorem dX13_cutAll_26 : decode cX13_cutAll 26 = .ok (.getfield 14, 3) := by decide +kernel
theorem dX13_cutAll_29 : decode cX13_cutAll 29 = .ok (.iload_n 2, 1) := by decide +kernel
theorem dX13_cutAll_30 : decode cX13_cutAll 30 = .ok (.iaload, 1) := by decide +kernel
theorem dX13_cutAll_31 : decode cX13_cutAll 31 = .ok (.istore_n 3, 1) := by decide +kernel
theorem dX13_cutAll_32 : decode cX13_cutAll 32 = .ok (.iload_n 3, 1) := by decide +kernel
theorem dX13_cutAll_33 : decode cX13_cutAll 33 = .ok (.bipush 10, 2) := by decide +kernel
theorem dX13_cutAll_35 : decode cX13_cutAll 35 = .ok (.if_icmp .eq 9, 3) := by decide +kernel
theorem dX13_cutAll_38 : decode cX13_cutAll 38 = .ok (.iload_n 3, 1) := by decide +kernel
theorem dX13_cutAll_39 : decode cX13_cutAll 39 = .ok (.bipush 32, 2) := by decide +kernel
theorem dX13_cutAll_41 : decode cX13_cutAll 41 = .ok (.if_icmp .ne 9, 3) := by decide +kernel
theorem dX13_cutAll_44 : decode cX13_cutAll 44 = .ok (.iinc 2 1, 3) := by decide +kernel
theorem dX13_cutAll_47 : decode cX13_cutAll 47 = .ok (.goto (-30), 3) := by decide +kernel
theorem dX13_cutAll_50 : decode cX13_cutAll 50 = .ok (.iload_n 2, 1) := by decide +kernel
theorem dX13_cutAll_51 : decode cX13_cutAll 51 = .ok (.istore 4, 2) := by decide +kernel
theorem dX13_cutAll_53 : decode cX13_cutAll 53 = .ok (.lconst 0, 1) := by decide +kernel
theorem dX13_cutAll_54 : decode cX13_cutAll 54 = .ok (.lstore 5, 2) := by decide +kernel
theorem dX13_cutAll_56 : decode cX13_cutAll 56 = .ok (.aload_n 0, 1) := by decide +kernel
theorem dX13_cutAll_57 : decode cX13_cutAll 57 = .ok (.getfield 27, 3) := by decide +kernel
theorem dX13_cutAll_60 : decode cX13_cutAll 60 = .ok (.iload_n 1, 1) := by decide +kernel
theorem dX13_cutAll_61 : decode cX13_cutAll 61 = .ok (.iload_n 2, 1) := by decide +kernel
theorem dX13_cutAll_62 : decode cX13_cutAll 62 = .ok (.iastore, 1) := by decide +kernel
theorem dX13_cutAll_63 : decode cX13_cutAll 63 = .ok (.iload_n 3, 1) := by decide +kernel
theorem dX13_cutAll_64 : decode cX13_cutAll 64 = .ok (.invokestatic 166, 3) := by decide +kernel
theorem dX13_cutAll_67 : decode cX13_cutAll 67 = .ok (.ifCond .eq 85, 3) := by decide +kernel
theorem dX13_cutAll_70 : decode cX13_cutAll 70 = .ok (.iload_n 2, 1) := by decide +kernel
theorem dX13_cutAll_71 : decode cX13_cutAll 71 = .ok (.aload_n 0, 1) := by decide +kernel
theorem dX13_cutAll_72 : decode cX13_cutAll 72 = .ok (.getfield 170, 3) := by decide +kernel
theorem dX13_cutAll_75 : decode cX13_cutAll 75 = .ok (.if_icmp .ge 54, 3) := by decide +kernel
theorem dX13_cutAll_78 : decode cX13_cutAll 78 = .ok (.aload_n 0, 1) := by decide +kernel
theorem dX13_cutAll_79 : decode cX13_cutAll 79 = .ok (.getfield 14, 3) := by decide +kernel
theorem dX13_cutAll_82 : decode cX13_cutAll 82 = .ok (.iload_n 2, 1) := by decide +kernel
theorem dX13_cutAll_83 : decode cX13_cutAll 83 = .ok (.iaload, 1) := by decide +kernel
theorem dX13_cutAll_84 : decode cX13_cutAll 84 = .ok (.invokestatic 166, 3) := by decide +kernel
theorem dX13_cutAll_87 : decode cX13_cutAll 87 = .ok (.ifCond .eq 42, 3) := by decide +kernel
theorem dX13_cutAll_90 : decode cX13_cutAll 90 = .ok (.iload_n 2, 1) := by decide +kernel
theorem dX13_cutAll_91 : decode cX13_cutAll 91 = .ok (.iload 4, 2) := by decide +kernel
theorem dX13_cutAll_93 : decode cX13_cutAll 93 = .ok (.isub, 1) := by decide +kernel
theorem dX13_cutAll_94 : decode cX13_cutAll 94 = .ok (.bipush 8, 2) := by decide +kernel
theorem dX13_cutAll_96 : decode cX13_cutAll 96 = .ok (.if_icmp .ge 23, 3) := by decide +kernel
theorem dX13_cutAll_99 : decode cX13_cutAll 99 = .ok (.ldc2_w 173, 3) := by decide +kernel
theorem dX13_cutAll_102 : decode cX13_cutAll 102 = .ok (.lload 5, 2) := by decide +kernel
theorem dX13_cutAll_104 : decode cX13_cutAll 104 = .ok (.lmul, 1) := by decide +kernel
theorem dX13_cutAll_105 : decode cX13_cutAll 105 = .ok (.aload_n 0, 1) := by decide +kernel
theorem dX13_cutAll_106 : decode cX13_cutAll 106 = .ok (.getfield 14, 3) := by decide +kernel
theorem dX13_cutAll_109 : decode cX13_cutAll 109 = .ok (.iload_n 2, 1) := by decide +kernel
theorem dX13_cutAll_110 : decode cX13_cutAll 110 = .ok (.iaload, 1) := by decide +kernel
theorem dX13_cutAll_111 : decode cX13_cutAll 111 = .ok (.invokestatic 175, 3) := by decide +kernel
theorem dX13_cutAll_114 : decode cX13_cutAll 114 = .ok (.i2l, 1) := by decide +kernel
theorem dX13_cutAll_115 : decode cX13_cutAll 115 = .ok (.ladd, 1) := by decide +kernel
theorem dX13_cutAll_116 : decode cX13_cutAll 116 = .ok (.goto 5, 3) := by decide +kernel
theorem dX13_cutAll_119 : decode cX13_cutAll 119 = .ok (.lload 5, 2) := by decide +kernel
theorem dX13_cutAll_121 : decode cX13_cutAll 121 = .ok (.lstore 5, 2) := by decide +kernel
theorem dX13_cutAll_123 : decode cX13_cutAll 123 = .ok (.iinc 2 1, 3) := by decide +kernel
theorem dX13_cutAll_126 : decode cX13_cutAll 126 = .ok (.goto (-56), 3) := by decide +kernel
theorem dX13_cutAll_129 : decode cX13_cutAll 129 = .ok (.aload_n 0, 1) := by decide +kernel
theorem dX13_cutAll_130 : decode cX13_cutAll 130 = .ok (.getfield 24, 3) := by decide +kernel
theorem dX13_cutAll_133 : decode cX13_cutAll 133 = .ok (.iload_n 1, 1) := by decide +kernel
theorem dX13_cutAll_134 : decode cX13_cutAll 134 = .ok (.iload_n 2, 1) := by decide +kernel
theorem dX13_cutAll_135 : decode cX13_cutAll 135 = .ok (.iload 4, 2) := by decide +kernel
theorem dX13_cutAll_137 : decode cX13_cutAll 137 = .ok (.isub, 1) := by decide +kernel
theorem dX13_cutAll_138 : decode cX13_cutAll 138 = .ok (.bipush 8, 2) := by decide +kernel
theorem dX13_cutAll_140 : decode cX13_cutAll 140 = .ok (.if_icmp .le 7, 3) := by decide +kernel
theorem dX13_cutAll_143 : decode cX13_cutAll 143 = .ok (.iconst 4, 1) := by decide +kernel
theorem dX13_cutAll_144 : decode cX13_cutAll 144 = .ok (.goto 4, 3) := by decide +kernel
theorem dX13_cutAll_147 : decode cX13_cutAll 147 = .ok (.iconst 1, 1) := by decide +kernel
theorem dX13_cutAll_148 : decode cX13_cutAll 148 = .ok (.iastore, 1) := by decide +kernel
theorem dX13_cutAll_149 : decode cX13_cutAll 149 = .ok (.goto 116, 3) := by decide +kernel
theorem dX13_cutAll_152 : decode cX13_cutAll 152 = .ok (.iload_n 3, 1) := by decide +kernel
theorem dX13_cutAll_153 : decode cX13_cutAll 153 = .ok (.invokestatic 179, 3) := by decide +kernel
theorem dX13_cutAll_156 : decode cX13_cutAll 156 = .ok (.ifCond .eq 84, 3) := by decide +kernel
theorem dX13_cutAll_159 : decode cX13_cutAll 159 = .ok (.iload_n 2, 1) := by decide +kernel
theorem dX13_cutAll_160 : decode cX13_cutAll 160 = .ok (.aload_n 0, 1) := by decide +kernel
theorem dX13_cutAll_161 : decode cX13_cutAll 161 = .ok (.getfield 170, 3) := by decide +kernel
theorem dX13_cutAll_164 : decode cX13_cutAll 164 = .ok (.if_icmp .ge 54, 3) := by decide +kernel
theorem dX13_cutAll_167 : decode cX13_cutAll 167 = .ok (.aload_n 0, 1) := by decide +kernel
theorem dX13_cutAll_168 : decode cX13_cutAll 168 = .ok (.getfield 14, 3) := by decide +kernel
theorem dX13_cutAll_171 : decode cX13_cutAll 171 = .ok (.iload_n 2, 1) := by decide +kernel
theorem dX13_cutAll_172 : decode cX13_cutAll 172 = .ok (.iaload, 1) := by decide +kernel
theorem dX13_cutAll_173 : decode cX13_cutAll 173 = .ok (.invokestatic 179, 3) := by decide +kernel
theorem dX13_cutAll_176 : decode cX13_cutAll 176 = .ok (.ifCond .eq 42, 3) := by decide +kernel
theorem dX13_cutAll_179 : decode cX13_cutAll 179 = .ok (.iload_n 2, 1) := by decide +kernel
theorem dX13_cutAll_180 : decode cX13_cutAll 180 = .ok (.iload 4, 2) := by decide +kernel
theorem dX13_cutAll_182 : decode cX13_cutAll 182 = .ok (.isub, 1) := by decide +kernel
theorem dX13_cutAll_183 : decode cX13_cutAll 183 = .ok (.iconst 4, 1) := by decide +kernel
theorem dX13_cutAll_184 : decode cX13_cutAll 184 = .ok (.if_icmp .ge 24, 3) := by decide +kernel
theorem dX13_cutAll_187 : decode cX13_cutAll 187 = .ok (.ldc2_w 182, 3) := by decide +kernel
theorem dX13_cutAll_190 : decode cX13_cutAll 190 = .ok (.lload 5, 2) := by decide +kernel
theorem dX13_cutAll_192 : decode cX13_cutAll 192 = .ok (.lmul, 1) := by decide +kernel
theorem dX13_cutAll_193 : decode cX13_cutAll 193 = .ok (.aload_n 0, 1) := by decide +kernel
theorem dX13_cutAll_194 : decode cX13_cutAll 194 = .ok (.getfield 14, 3) := by decide +kernel
theorem dX13_cutAll_197 : decode cX13_cutAll 197 = .ok (.iload_n 2, 1) := by decide +kernel
theorem dX13_cutAll_198 : decode cX13_cutAll 198 = .ok (.iaload, 1) := by decide +kernel
theorem dX13_cutAll_199 : decode cX13_cutAll 199 = .ok (.i2l, 1) := by decide +kernel
theorem dX13_cutAll_200 : decode cX13_cutAll 200 = .ok (.ladd, 1) := by decide +kernel
theorem dX13_cutAll_201 : decode cX13_cutAll 201 = .ok (.ldc2_w 184, 3) := by decide +kernel
theorem dX13_cutAll_204 : decode cX13_cutAll 204 = .ok (.lsub, 1) := by decide +kernel
theorem dX13_cutAll_205 : decode cX13_cutAll 205 = .ok (.goto 5, 3) := by decide +kernel
theorem dX13_cutAll_208 : decode cX13_cutAll 208 = .ok (.lload 5, 2) := by decide +kernel
theorem dX13_cutAll_210 : decode cX13_cutAll 210 = .ok (.lstore 5, 2) := by decide +kernel
theorem dX13_cutAll_212 : decode cX13_cutAll 212 = .ok (.iinc 2 1, 3) := by decide +kernel
theorem dX13_cutAll_215 : decode cX13_cutAll 215 = .ok (.goto (-56), 3) := by decide +kernel
theorem dX13_cutAll_218 : decode cX13_cutAll 218 = .ok (.aload_n 0, 1) := by decide +kernel
theorem dX13_cutAll_219 : decode cX13_cutAll 219 = .ok (.getfield 24, 3) := by decide +kernel
theorem dX13_cutAll_222 : decode cX13_cutAll 222 = .ok (.iload_n 1, 1) := by decide +kernel
theorem dX13_cutAll_223 : decode cX13_cutAll 223 = .ok (.iload_n 2, 1) := by decide +kernel
theorem dX13_cutAll_224 : decode cX13_cutAll 224 = .ok (.iload 4, 2) := by decide +kernel
theorem dX13_cutAll_226 : decode cX13_cutAll 226 = .ok (.isub, 1) := by decide +kernel
theorem dX13_cutAll_227 : decode cX13_cutAll 227 = .ok (.iconst 4, 1) := by decide +kernel
theorem dX13_cutAll_228 : decode cX13_cutAll 228 = .ok (.if_icmp .le 7, 3) := by decide +kernel
theorem dX13_cutAll_231 : decode cX13_cutAll 231 = .ok (.iconst 4, 1) := by decide +kernel
theorem dX13_cutAll_232 : decode cX13_cutAll 232 = .ok (.goto 4, 3) := by decide +kernel
theorem dX13_cutAll_235 : decode cX13_cutAll 235 = .ok (.iconst 2, 1) := by decide +kernel
theorem dX13_cutAll_236 : decode cX13_cutAll 236 = .ok (.iastore, 1) := by decide +kernel
theorem dX13_cutAll_237 : decode cX13_cutAll 237 = .ok (.goto 28, 3) := by decide +kernel
theorem dX13_cutAll_240 : decode cX13_cutAll 240 = .ok (.iload_n 3, 1) := by decide +kernel
theorem dX13_cutAll_241 : decode cX13_cutAll 241 = .ok (.i2l, 1) := by decide +kernel
theorem dX13_cutAll_242 : decode cX13_cutAll 242 = .ok (.lstore 5, 2) := by decide +kernel
theorem dX13_cutAll_244 : decode cX13_cutAll 244 = .ok (.aload_n 0, 1) := by decide +kernel
theorem dX13_cutAll_245 : decode cX13_cutAll 245 = .ok (.getfield 24, 3) := by decide +kernel
theorem dX13_cutAll_248 : decode cX13_cutAll 248 = .ok (.iload_n 1, 1) := by decide +kernel
theorem dX13_cutAll_249 : decode cX13_cutAll 249 = .ok (.iload_n 3, 1) := by decide +kernel
theorem dX13_cutAll_250 : decode cX13_cutAll 250 = .ok (.invokestatic 186, 3) := by decide +kernel
theorem dX13_cutAll_253 : decode cX13_cutAll 253 = .ok (.ifCond .eq 7, 3) := by decide +kernel
theorem dX13_cutAll_256 : decode cX13_cutAll 256 = .ok (.iconst 3, 1) := by decide +kernel
theorem dX13_cutAll_257 : decode cX13_cutAll 257 = .ok (.goto 4, 3) := by decide +kernel
theorem dX13_cutAll_260 : decode cX13_cutAll 260 = .ok (.iconst 4, 1) := by decide +kernel
theorem dX13_cutAll_261 : decode cX13_cutAll 261 = .ok (.iastore, 1) := by decide +kernel
theorem dX13_cutAll_262 : decode cX13_cutAll 262 = .ok (.iinc 2 1, 3) := by decide +kernel
theorem dX13_cutAll_265 : decode cX13_cutAll 265 = .ok (.aload_n 0, 1) := by decide +kernel
theorem dX13_cutAll_266 : decode cX13_cutAll 266 = .ok (.getfield 30, 3) := by decide +kernel
theorem dX13_cutAll_269 : decode cX13_cutAll 269 = .ok (.iload_n 1, 1) := by decide +kernel
theorem dX13_cutAll_270 : decode cX13_cutAll 270 = .ok (.lload 5, 2) := by decide +kernel
theorem dX13_cutAll_272 : decode cX13_cutAll 272 = .ok (.lastore, 1) := by decide +kernel
theorem dX13_cutAll_273 : decode cX13_cutAll 273 = .ok (.iinc 1 1, 3) := by decide +kernel
theorem dX13_cutAll_276 : decode cX13_cutAll 276 = .ok (.goto (-259), 3) := by decide +kernel
theorem dX13_cutAll_279 : decode cX13_cutAll 279 = .ok (.aload_n 0, 1) := by decide +kernel
theorem dX13_cutAll_280 : decode cX13_cutAll 280 = .ok (.getfield 24, 3) := by decide +kernel
theorem dX13_cutAll_283 : decode cX13_cutAll 283 = .ok (.iload_n 1, 1) := by decide +kernel
theorem dX13_cutAll_284 : decode cX13_cutAll 284 = .ok (.iconst 0, 1) := by decide +kernel
theorem dX13_cutAll_285 : decode cX13_cutAll 285 = .ok (.iastore, 1) := by decide +kernel
theorem dX13_cutAll_286 : decode cX13_cutAll 286 = .ok (.aload_n 0, 1) := by decide +kernel
theorem dX13_cutAll_287 : decode cX13_cutAll 287 = .ok (.getfield 27, 3) := by decide +kernel
theorem dX13_cutAll_290 : decode cX13_cutAll 290 = .ok (.iload_n 1, 1) := by decide +kernel
theorem dX13_cutAll_291 : decode cX13_cutAll 291 = .ok (.aload_n 0, 1) := by decide +kernel
theorem dX13_cutAll_292 : decode cX13_cutAll 292 = .ok (.getfield 170, 3) := by decide +kernel
theorem dX13_cutAll_295 : decode cX13_cutAll 295 = .ok (.iastore, 1) := by decide +kernel
theorem dX13_cutAll_296 : decode cX13_cutAll 296 = .ok (.aload_n 0, 1) := by decide +kernel
theorem dX13_cutAll_297 : decode cX13_cutAll 297 = .ok (.iconst 0, 1) := by decide +kernel
theorem dX13_cutAll_298 : decode cX13_cutAll 298 = .ok (.putfield 189, 3) := by decide +kernel
theorem dX13_cutAll_301 : decode cX13_cutAll 301 = .ok (.aload_n 0, 1) := by decide +kernel
theorem dX13_cutAll_302 : decode cX13_cutAll 302 = .ok (.iconst 0, 1) := by decide +kernel
theorem dX13_cutAll_303 : decode cX13_cutAll 303 = .ok (.putfield 192, 3) := by decide +kernel
theorem dX13_cutAll_306 : decode cX13_cutAll 306 = .ok (.return_, 1) := by decide +kernel
theorem dX13_wrong_0 : decode cX13_wrong 0 = .ok (.aload_n 0, 1) := by decide +kernel
theorem dX13_wrong_1 : decode cX13_wrong 1 = .ok (.getfield 192, 3) := by decide +kernel
theorem dX13_wrong_4 : decode cX13_wrong 4 = .ok (.ifCond .ne 21, 3) := by decide +kernel
theorem dX13_wrong_7 : decode cX13_wrong 7 = .ok (.aload_n 0, 1) := by decide +kernel
theorem dX13_wrong_8 : decode cX13_wrong 8 = .ok (.iload_n 1, 1) := by decide +kernel
theorem dX13_wrong_9 : decode cX13_wrong 9 = .ok (.bipush 16, 2) := by decide +kernel
theorem dX13_wrong_11 : decode cX13_wrong 11 = .ok (.aload_n 0, 1) := by decide +kernel
theorem dX13_wrong_12 : decode cX13_wrong 12 = .ok (.getfield 27, 3) := by decide +kernel
theorem dX13_wrong_15 : decode cX13_wrong 15 = .ok (.aload_n 0, 1) := by decide +kernel
theorem dX13_wrong_16 : decode cX13_wrong 16 = .ok (.getfield 189, 3) := by decide +kernel
theorem dX13_wrong_19 : decode cX13_wrong 19 = .ok (.iaload, 1) := by decide +kernel
theorem dX13_wrong_20 : decode cX13_wrong 20 = .ok (.imul, 1) := by decide +kernel
theorem dX13_wrong_21 : decode cX13_wrong 21 = .ok (.iadd, 1) := by decide +kernel
theorem dX13_wrong_22 : decode cX13_wrong 22 = .ok (.putfield 192, 3) := by decide +kernel
theorem dX13_wrong_25 : decode cX13_wrong 25 = .ok (.return_, 1) := by decide +kernel
theorem dX13_isSign_0 : decode cX13_isSign 0 = .ok (.aload_n 0, 1) := by decide +kernel
theorem dX13_isSign_1 : decode cX13_isSign 1 = .ok (.getfield 192, 3) := by decide +kernel
theorem dX13_isSign_4 : decode cX13_isSign 4 = .ok (.ifCond .ne 35, 3) := by decide +kernel
theorem dX13_isSign_7 : decode cX13_isSign 7 = .ok (.aload_n 0, 1) := by decide +kernel
theorem dX13_isSign_8 : decode cX13_isSign 8 = .ok (.getfield 24, 3) := by decide +kernel
theorem dX13_isSign_11 : decode cX13_isSign 11 = .ok (.aload_n 0, 1) := by decide +kernel
theorem dX13_isSign_12 : decode cX13_isSign 12 = .ok (.getfield 189, 3) := by decide +kernel
theorem dX13_isSign_15 : decode cX13_isSign 15 = .ok (.iaload, 1) := by decide +kernel
theorem dX13_isSign_16 : decode cX13_isSign 16 = .ok (.iconst 3, 1) := by decide +kernel
theorem dX13_isSign_17 : decode cX13_isSign 17 = .ok (.if_icmp .ne 22, 3) := by decide +kernel
theorem dX13_isSign_20 : decode cX13_isSign 20 = .ok (.aload_n 0, 1) := by decide +kernel
theorem dX13_isSign_21 : decode cX13_isSign 21 = .ok (.getfield 30, 3) := by decide +kernel
theorem dX13_isSign_24 : decode cX13_isSign 24 = .ok (.aload_n 0, 1) := by decide +kernel
theorem dX13_isSign_25 : decode cX13_isSign 25 = .ok (.getfield 189, 3) := by decide +kernel
theorem dX13_isSign_28 : decode cX13_isSign 28 = .ok (.laload, 1) := by decide +kernel
theorem dX13_isSign_29 : decode cX13_isSign 29 = .ok (.iload_n 1, 1) := by decide +kernel
theorem dX13_isSign_30 : decode cX13_isSign 30 = .ok (.i2l, 1) := by decide +kernel
theorem dX13_isSign_31 : decode cX13_isSign 31 = .ok (.lcmp, 1) := by decide +kernel
theorem dX13_isSign_32 : decode cX13_isSign 32 = .ok (.ifCond .ne 7, 3) := by decide +kernel
theorem dX13_isSign_35 : decode cX13_isSign 35 = .ok (.iconst 1, 1) := by decide +kernel
theorem dX13_isSign_36 : decode cX13_isSign 36 = .ok (.goto 4, 3) := by decide +kernel
theorem dX13_isSign_39 : decode cX13_isSign 39 = .ok (.iconst 0, 1) := by decide +kernel
theorem dX13_isSign_40 : decode cX13_isSign 40 = .ok (.ireturn, 1) := by decide +kernel
theorem dX13_isWord_0 : decode cX13_isWord 0 = .ok (.aload_n 0, 1) := by decide +kernel
theorem dX13_isWord_1 : decode cX13_isWord 1 = .ok (.getfield 192, 3) := by decide +kernel
theorem dX13_isWord_4 : decode cX13_isWord 4 = .ok (.ifCond .ne 39, 3) := by decide +kernel
theorem dX13_isWord_7 : decode cX13_isWord 7 = .ok (.aload_n 0, 1) := by decide +kernel
theorem dX13_isWord_8 : decode cX13_isWord 8 = .ok (.getfield 24, 3) := by decide +kernel
theorem dX13_isWord_11 : decode cX13_isWord 11 = .ok (.aload_n 0, 1) := by decide +kernel
theorem dX13_isWord_12 : decode cX13_isWord 12 = .ok (.getfield 189, 3) := by decide +kernel
theorem dX13_isWord_15 : decode cX13_isWord 15 = .ok (.iaload, 1) := by decide +kernel
theorem dX13_isWord_16 : decode cX13_isWord 16 = .ok (.iconst 1, 1) := by decide +kernel
theorem dX13_isWord_17 : decode cX13_isWord 17 = .ok (.if_icmp .ne 26, 3) := by decide +kernel
theorem dX13_isWord_20 : decode cX13_isWord 20 = .ok (.aload_n 0, 1) := by decide +kernel
theorem dX13_isWord_21 : decode cX13_isWord 21 = .ok (.getfield 30, 3) := by decide +kernel
theorem dX13_isWord_24 : decode cX13_isWord 24 = .ok (.aload_n 0, 1) := by decide +kernel
theorem dX13_isWord_25 : decode cX13_isWord 25 = .ok (.getfield 189, 3) := by decide +kernel
theorem dX13_isWord_28 : decode cX13_isWord 28 = .ok (.laload, 1) := by decide +kernel
theorem dX13_isWord_29 : decode cX13_isWord 29 = .ok (.aload_n 0, 1) := by decide +kernel
theorem dX13_isWord_30 : decode cX13_isWord 30 = .ok (.getfield 92, 3) := by decide +kernel
theorem dX13_isWord_33 : decode cX13_isWord 33 = .ok (.iload_n 1, 1) := by decide +kernel
theorem dX13_isWord_34 : decode cX13_isWord 34 = .ok (.laload, 1) := by decide +kernel
theorem dX13_isWord_35 : decode cX13_isWord 35 = .ok (.lcmp, 1) := by decide +kernel
theorem dX13_isWord_36 : decode cX13_isWord 36 = .ok (.ifCond .ne 7, 3) := by decide +kernel
theorem dX13_isWord_39 : decode cX13_isWord 39 = .ok (.iconst 1, 1) := by decide +kernel
theorem dX13_isWord_40 : decode cX13_isWord 40 = .ok (.goto 4, 3) := by decide +kernel
theorem dX13_isWord_43 : decode cX13_isWord 43 = .ok (.iconst 0, 1) := by decide +kernel
theorem dX13_isWord_44 : decode cX13_isWord 44 = .ok (.ireturn, 1) := by decide +kernel
theorem dX13_takeSign_0 : decode cX13_takeSign 0 = .ok (.aload_n 0, 1) := by decide +kernel
theorem dX13_takeSign_1 : decode cX13_takeSign 1 = .ok (.iload_n 1, 1) := by decide +kernel
theorem dX13_takeSign_2 : decode cX13_takeSign 2 = .ok (.invokevirtual 195, 3) := by decide +kernel
theorem dX13_takeSign_5 : decode cX13_takeSign 5 = .ok (.ifCond .eq 16, 3) := by decide +kernel
theorem dX13_takeSign_8 : decode cX13_takeSign 8 = .ok (.aload_n 0, 1) := by decide +kernel
theorem dX13_takeSign_9 : decode cX13_takeSign 9 = .ok (.dup, 1) := by decide +kernel
theorem dX13_takeSign_10 : decode cX13_takeSign 10 = .ok (.getfield 189, 3) := by decide +kernel
theorem dX13_takeSign_13 : decode cX13_takeSign 13 = .ok (.iconst 1, 1) := by decide +kernel
theorem dX13_takeSign_14 : decode cX13_takeSign 14 = .ok (.iadd, 1) := by decide +kernel
theorem dX13_takeSign_15 : decode cX13_takeSign 15 = .ok (.putfield 189, 3) := by decide +kernel
theorem dX13_takeSign_18 : decode cX13_takeSign 18 = .ok (.goto 8, 3) := by decide +kernel
theorem dX13_takeSign_21 : decode cX13_takeSign 21 = .ok (.aload_n 0, 1) := by decide +kernel
theorem dX13_takeSign_22 : decode cX13_takeSign 22 = .ok (.iconst 1, 1) := by decide +kernel
theorem dX13_takeSign_23 : decode cX13_takeSign 23 = .ok (.invokevirtual 198, 3) := by decide +kernel
theorem dX13_takeSign_26 : decode cX13_takeSign 26 = .ok (.return_, 1) := by decide +kernel
theorem dX13_hasSign_0 : decode cX13_hasSign 0 = .ok (.aload_n 0, 1) := by decide +kernel
theorem dX13_hasSign_1 : decode cX13_hasSign 1 = .ok (.iload_n 1, 1) := by decide +kernel
theorem dX13_hasSign_2 : decode cX13_hasSign 2 = .ok (.invokevirtual 195, 3) := by decide +kernel
theorem dX13_hasSign_5 : decode cX13_hasSign 5 = .ok (.istore_n 2, 1) := by decide +kernel
theorem dX13_hasSign_6 : decode cX13_hasSign 6 = .ok (.aload_n 0, 1) := by decide +kernel
theorem dX13_hasSign_7 : decode cX13_hasSign 7 = .ok (.dup, 1) := by decide +kernel
theorem dX13_hasSign_8 : decode cX13_hasSign 8 = .ok (.getfield 189, 3) := by decide +kernel
theorem dX13_hasSign_11 : decode cX13_hasSign 11 = .ok (.iload_n 2, 1) := by decide +kernel
theorem dX13_hasSign_12 : decode cX13_hasSign 12 = .ok (.ifCond .eq 7, 3) := by decide +kernel
theorem dX13_hasSign_15 : decode cX13_hasSign 15 = .ok (.iconst 1, 1) := by decide +kernel
theorem dX13_hasSign_16 : decode cX13_hasSign 16 = .ok (.goto 4, 3) := by decide +kernel
theorem dX13_hasSign_19 : decode cX13_hasSign 19 = .ok (.iconst 0, 1) := by decide +kernel
theorem dX13_hasSign_20 : decode cX13_hasSign 20 = .ok (.iadd, 1) := by decide +kernel
theorem dX13_hasSign_21 : decode cX13_hasSign 21 = .ok (.putfield 189, 3) := by decide +kernel
theorem dX13_hasSign_24 : decode cX13_hasSign 24 = .ok (.iload_n 2, 1) := by decide +kernel
theorem dX13_hasSign_25 : decode cX13_hasSign 25 = .ok (.ireturn, 1) := by decide +kernel
theorem dX13_hasWord_0 : decode cX13_hasWord 0 = .ok (.aload_n 0, 1) := by decide +kernel
theorem dX13_hasWord_1 : decode cX13_hasWord 1 = .ok (.iload_n 1, 1) := by decide +kernel
theorem dX13_hasWord_2 : decode cX13_hasWord 2 = .ok (.invokevirtual 201, 3) := by decide +kernel
theorem dX13_hasWord_5 : decode cX13_hasWord 5 = .ok (.istore_n 2, 1) := by decide +kernel
theorem dX13_hasWord_6 : decode cX13_hasWord 6 = .ok (.aload_n 0, 1) := by decide +kernel
theorem dX13_hasWord_7 : decode cX13_hasWord 7 = .ok (.dup, 1) := by decide +kernel
theorem dX13_hasWord_8 : decode cX13_hasWord 8 = .ok (.getfield 189, 3) := by decide +kernel
theorem dX13_hasWord_11 : decode cX13_hasWord 11 = .ok (.iload_n 2, 1) := by decide +kernel
theorem dX13_hasWord_12 : decode cX13_hasWord 12 = .ok (.ifCond .eq 7, 3) := by decide +kernel
theorem dX13_hasWord_15 : decode cX13_hasWord 15 = .ok (.iconst 1, 1) := by decide +kernel
theorem dX13_hasWord_16 : decode cX13_hasWord 16 = .ok (.goto 4, 3) := by decide +kernel
theorem dX13_hasWord_19 : decode cX13_hasWord 19 = .ok (.iconst 0, 1) := by decide +kernel
theorem dX13_hasWord_20 : decode cX13_hasWord 20 = .ok (.iadd, 1) := by decide +kernel
theorem dX13_hasWord_21 : decode cX13_hasWord 21 = .ok (.putfield 189, 3) := by decide +kernel
theorem dX13_hasWord_24 : decode cX13_hasWord 24 = .ok (.iload_n 2, 1) := by decide +kernel
theorem dX13_hasWord_25 : decode cX13_hasWord 25 = .ok (.ireturn, 1) := by decide +kernel
theorem dX13_takeWord_0 : decode cX13_takeWord 0 = .ok (.aload_n 0, 1) := by decide +kernel
theorem dX13_takeWord_1 : decode cX13_takeWord 1 = .ok (.iload_n 1, 1) := by decide +kernel
theorem dX13_takeWord_2 : decode cX13_takeWord 2 = .ok (.invokevirtual 204, 3) := by decide +kernel
theorem dX13_takeWord_5 : decode cX13_takeWord 5 = .ok (.ifCond .ne 8, 3) := by decide +kernel
theorem dX13_takeWord_8 : decode cX13_takeWord 8 = .ok (.aload_n 0, 1) := by decide +kernel
theorem dX13_takeWord_9 : decode cX13_takeWord 9 = .ok (.iconst 1, 1) := by decide +kernel
theorem dX13_takeWord_10 : decode cX13_takeWord 10 = .ok (.invokevirtual 198, 3) := by decide +kernel
theorem dX13_takeWord_13 : decode cX13_takeWord 13 = .ok (.return_, 1) := by decide +kernel
theorem dX13_within_0 : decode cX13_within 0 = .ok (.iload_n 0, 1) := by decide +kernel
theorem dX13_within_1 : decode cX13_within 1 = .ok (.iload_n 1, 1) := by decide +kernel
theorem dX13_within_2 : decode cX13_within 2 = .ok (.if_icmp .lt 12, 3) := by decide +kernel
theorem dX13_within_5 : decode cX13_within 5 = .ok (.iload_n 0, 1) := by decide +kernel
theorem dX13_within_6 : decode cX13_within 6 = .ok (.iload_n 2, 1) := by decide +kernel
theorem dX13_within_7 : decode cX13_within 7 = .ok (.if_icmp .gt 7, 3) := by decide +kernel
theorem dX13_within_10 : decode cX13_within 10 = .ok (.iconst 1, 1) := by decide +kernel
theorem dX13_within_11 : decode cX13_within 11 = .ok (.goto 4, 3) := by decide +kernel
theorem dX13_within_14 : decode cX13_within 14 = .ok (.iconst 0, 1) := by decide +kernel
theorem dX13_within_15 : decode cX13_within 15 = .ok (.ireturn, 1) := by decide +kernel
theorem dX13_standsAsAlways_0 : decode cX13_standsAsAlways 0 = .ok (.iconst 0, 1) := by decide +kernel
theorem dX13_standsAsAlways_1 : decode cX13_standsAsAlways 1 = .ok (.istore_n 2, 1) := by decide +kernel
theorem dX13_standsAsAlways_2 : decode cX13_standsAsAlways 2 = .ok (.iload_n 2, 1) := by decide +kernel
theorem dX13_standsAsAlways_3 : decode cX13_standsAsAlways 3 = .ok (.bipush 70, 2) := by decide +kernel
theorem dX13_standsAsAlways_5 : decode cX13_standsAsAlways 5 = .ok (.if_icmp .ge 18, 3) := by decide +kernel
theorem dX13_standsAsAlways_8 : decode cX13_standsAsAlways 8 = .ok (.aload_n 0, 1) := by decide +kernel
theorem dX13_standsAsAlways_9 : decode cX13_standsAsAlways 9 = .ok (.getfield 95, 3) := by decide +kernel
theorem dX13_standsAsAlways_12 : decode cX13_standsAsAlways 12 = .ok (.iload_n 1, 1) := by decide +kernel
theorem dX13_standsAsAlways_13 : decode cX13_standsAsAlways 13 = .ok (.iload_n 2, 1) := by decide +kernel
theorem dX13_standsAsAlways_14 : decode cX13_standsAsAlways 14 = .ok (.iadd, 1) := by decide +kernel
theorem dX13_standsAsAlways_15 : decode cX13_standsAsAlways 15 = .ok (.iconst 0, 1) := by decide +kernel
theorem dX13_standsAsAlways_16 : decode cX13_standsAsAlways 16 = .ok (.iastore, 1) := by decide +kernel
theorem dX13_standsAsAlways_17 : decode cX13_standsAsAlways 17 = .ok (.iinc 2 1, 3) := by decide +kernel
theorem dX13_standsAsAlways_20 : decode cX13_standsAsAlways 20 = .ok (.goto (-18), 3) := by decide +kernel
theorem dX13_standsAsAlways_23 : decode cX13_standsAsAlways 23 = .ok (.aload_n 0, 1) := by decide +kernel
theorem dX13_standsAsAlways_24 : decode cX13_standsAsAlways 24 = .ok (.getfield 95, 3) := by decide +kernel
theorem dX13_standsAsAlways_27 : decode cX13_standsAsAlways 27 = .ok (.iload_n 1, 1) := by decide +kernel
theorem dX13_standsAsAlways_28 : decode cX13_standsAsAlways 28 = .ok (.iconst 3, 1) := by decide +kernel
theorem dX13_standsAsAlways_29 : decode cX13_standsAsAlways 29 = .ok (.iadd, 1) := by decide +kernel
theorem dX13_standsAsAlways_30 : decode cX13_standsAsAlways 30 = .ok (.iconst 1, 1) := by decide +kernel
theorem dX13_standsAsAlways_31 : decode cX13_standsAsAlways 31 = .ok (.iastore, 1) := by decide +kernel
theorem dX13_standsAsAlways_32 : decode cX13_standsAsAlways 32 = .ok (.aload_n 0, 1) := by decide +kernel
theorem dX13_standsAsAlways_33 : decode cX13_standsAsAlways 33 = .ok (.getfield 95, 3) := by decide +kernel
theorem dX13_standsAsAlways_36 : decode cX13_standsAsAlways 36 = .ok (.iload_n 1, 1) := by decide +kernel
theorem dX13_standsAsAlways_37 : decode cX13_standsAsAlways 37 = .ok (.iconst 4, 1) := by decide +kernel
theorem dX13_standsAsAlways_38 : decode cX13_standsAsAlways 38 = .ok (.iadd, 1) := by decide +kernel
theorem dX13_standsAsAlways_39 : decode cX13_standsAsAlways 39 = .ok (.iconst (-1), 1) := by decide +kernel
theorem dX13_standsAsAlways_40 : decode cX13_standsAsAlways 40 = .ok (.iastore, 1) := by decide +kernel
theorem dX13_standsAsAlways_41 : decode cX13_standsAsAlways 41 = .ok (.aload_n 0, 1) := by decide +kernel
theorem dX13_standsAsAlways_42 : decode cX13_standsAsAlways 42 = .ok (.getfield 95, 3) := by decide +kernel
theorem dX13_standsAsAlways_45 : decode cX13_standsAsAlways 45 = .ok (.iload_n 1, 1) := by decide +kernel
theorem dX13_standsAsAlways_46 : decode cX13_standsAsAlways 46 = .ok (.iconst 4, 1) := by decide +kernel
theorem dX13_standsAsAlways_47 : decode cX13_standsAsAlways 47 = .ok (.iadd, 1) := by decide +kernel
theorem dX13_standsAsAlways_48 : decode cX13_standsAsAlways 48 = .ok (.iconst 1, 1) := by decide +kernel
theorem dX13_standsAsAlways_49 : decode cX13_standsAsAlways 49 = .ok (.iadd, 1) := by decide +kernel
theorem dX13_standsAsAlways_50 : decode cX13_standsAsAlways 50 = .ok (.iconst (-1), 1) := by decide +kernel
theorem dX13_standsAsAlways_51 : decode cX13_standsAsAlways 51 = .ok (.iastore, 1) := by decide +kernel
theorem dX13_standsAsAlways_52 : decode cX13_standsAsAlways 52 = .ok (.aload_n 0, 1) := by decide +kernel
theorem dX13_standsAsAlways_53 : decode cX13_standsAsAlways 53 = .ok (.getfield 95, 3) := by decide +kernel
theorem dX13_standsAsAlways_56 : decode cX13_standsAsAlways 56 = .ok (.iload_n 1, 1) := by decide +kernel
theorem dX13_standsAsAlways_57 : decode cX13_standsAsAlways 57 = .ok (.bipush 30, 2) := by decide +kernel
theorem dX13_standsAsAlways_59 : decode cX13_standsAsAlways 59 = .ok (.iadd, 1) := by decide +kernel
theorem dX13_standsAsAlways_60 : decode cX13_standsAsAlways 60 = .ok (.iconst (-1), 1) := by decide +kernel
theorem dX13_standsAsAlways_61 : decode cX13_standsAsAlways 61 = .ok (.iastore, 1) := by decide +kernel
theorem dX13_standsAsAlways_62 : decode cX13_standsAsAlways 62 = .ok (.aload_n 0, 1) := by decide +kernel
theorem dX13_standsAsAlways_63 : decode cX13_standsAsAlways 63 = .ok (.getfield 95, 3) := by decide +kernel
theorem dX13_standsAsAlways_66 : decode cX13_standsAsAlways 66 = .ok (.iload_n 1, 1) := by decide +kernel
theorem dX13_standsAsAlways_67 : decode cX13_standsAsAlways 67 = .ok (.bipush 30, 2) := by decide +kernel
theorem dX13_standsAsAlways_69 : decode cX13_standsAsAlways 69 = .ok (.iadd, 1) := by decide +kernel
theorem dX13_standsAsAlways_70 : decode cX13_standsAsAlways 70 = .ok (.iconst 3, 1) := by decide +kernel
theorem dX13_standsAsAlways_71 : decode cX13_standsAsAlways 71 = .ok (.iadd, 1) := by decide +kernel
theorem dX13_standsAsAlways_72 : decode cX13_standsAsAlways 72 = .ok (.iconst 5, 1) := by decide +kernel
theorem dX13_standsAsAlways_73 : decode cX13_standsAsAlways 73 = .ok (.iastore, 1) := by decide +kernel
theorem dX13_standsAsAlways_74 : decode cX13_standsAsAlways 74 = .ok (.return_, 1) := by decide +kernel
theorem dX13_takeNumber_0 : decode cX13_takeNumber 0 = .ok (.aload_n 0, 1) := by decide +kernel
theorem dX13_takeNumber_1 : decode cX13_takeNumber 1 = .ok (.getfield 192, 3) := by decide +kernel
theorem dX13_takeNumber_4 : decode cX13_takeNumber 4 = .ok (.ifCond .ne 24, 3) := by decide +kernel
theorem dX13_takeNumber_7 : decode cX13_takeNumber 7 = .ok (.aload_n 0, 1) := by decide +kernel
theorem dX13_takeNumber_8 : decode cX13_takeNumber 8 = .ok (.getfield 24, 3) := by decide +kernel
theorem dX13_takeNumber_11 : decode cX13_takeNumber 11 = .ok (.aload_n 0, 1) := by decide +kernel
theorem dX13_takeNumber_12 : decode cX13_takeNumber 12 = .ok (.getfield 189, 3) := by decide +kernel
theorem dX13_takeNumber_15 : decode cX13_takeNumber 15 = .ok (.iaload, 1) := by decide +kernel
theorem dX13_takeNumber_16 : decode cX13_takeNumber 16 = .ok (.iconst 2, 1) := by decide +kernel
theorem dX13_takeNumber_17 : decode cX13_takeNumber 17 = .ok (.if_icmp .eq 11, 3) := by decide +kernel
theorem dX13_takeNumber_20 : decode cX13_takeNumber 20 = .ok (.aload_n 0, 1) := by decide +kernel
theorem dX13_takeNumber_21 : decode cX13_takeNumber 21 = .ok (.iconst 1, 1) := by decide +kernel
theorem dX13_takeNumber_22 : decode cX13_takeNumber 22 = .ok (.invokevirtual 198, 3) := by decide +kernel
theorem dX13_takeNumber_25 : decode cX13_takeNumber 25 = .ok (.goto 45, 3) := by decide +kernel
theorem dX13_takeNumber_28 : decode cX13_takeNumber 28 = .ok (.aload_n 0, 1) := by decide +kernel
theorem dX13_takeNumber_29 : decode cX13_takeNumber 29 = .ok (.getfield 192, 3) := by decide +kernel
theorem dX13_takeNumber_32 : decode cX13_takeNumber 32 = .ok (.ifCond .ne 38, 3) := by decide +kernel
theorem dX13_takeNumber_35 : decode cX13_takeNumber 35 = .ok (.aload_n 0, 1) := by decide +kernel
theorem dX13_takeNumber_36 : decode cX13_takeNumber 36 = .ok (.getfield 30, 3) := by decide +kernel
theorem dX13_takeNumber_39 : decode cX13_takeNumber 39 = .ok (.aload_n 0, 1) := by decide +kernel
theorem dX13_takeNumber_40 : decode cX13_takeNumber 40 = .ok (.getfield 189, 3) := by decide +kernel
theorem dX13_takeNumber_43 : decode cX13_takeNumber 43 = .ok (.laload, 1) := by decide +kernel
theorem dX13_takeNumber_44 : decode cX13_takeNumber 44 = .ok (.iload_n 1, 1) := by decide +kernel
theorem dX13_takeNumber_45 : decode cX13_takeNumber 45 = .ok (.i2l, 1) := by decide +kernel
theorem dX13_takeNumber_46 : decode cX13_takeNumber 46 = .ok (.lcmp, 1) := by decide +kernel
theorem dX13_takeNumber_47 : decode cX13_takeNumber 47 = .ok (.ifCond .lt 18, 3) := by decide +kernel
theorem dX13_takeNumber_50 : decode cX13_takeNumber 50 = .ok (.aload_n 0, 1) := by decide +kernel
theorem dX13_takeNumber_51 : decode cX13_takeNumber 51 = .ok (.getfield 30, 3) := by decide +kernel
theorem dX13_takeNumber_54 : decode cX13_takeNumber 54 = .ok (.aload_n 0, 1) := by decide +kernel
theorem dX13_takeNumber_55 : decode cX13_takeNumber 55 = .ok (.getfield 189, 3) := by decide +kernel
theorem dX13_takeNumber_58 : decode cX13_takeNumber 58 = .ok (.laload, 1) := by decide +kernel
theorem dX13_takeNumber_59 : decode cX13_takeNumber 59 = .ok (.iload_n 2, 1) := by decide +kernel
theorem dX13_takeNumber_60 : decode cX13_takeNumber 60 = .ok (.i2l, 1) := by decide +kernel
theorem dX13_takeNumber_61 : decode cX13_takeNumber 61 = .ok (.lcmp, 1) := by decide +kernel
theorem dX13_takeNumber_62 : decode cX13_takeNumber 62 = .ok (.ifCond .le 8, 3) := by decide +kernel
theorem dX13_takeNumber_65 : decode cX13_takeNumber 65 = .ok (.aload_n 0, 1) := by decide +kernel
theorem dX13_takeNumber_66 : decode cX13_takeNumber 66 = .ok (.iconst 4, 1) := by decide +kernel
theorem dX13_takeNumber_67 : decode cX13_takeNumber 67 = .ok (.invokevirtual 198, 3) := by decide +kernel
theorem dX13_takeNumber_70 : decode cX13_takeNumber 70 = .ok (.aload_n 0, 1) := by decide +kernel
theorem dX13_takeNumber_71 : decode cX13_takeNumber 71 = .ok (.getfield 192, 3) := by decide +kernel
theorem dX13_takeNumber_74 : decode cX13_takeNumber 74 = .ok (.ifCond .le 5, 3) := by decide +kernel
theorem dX13_takeNumber_77 : decode cX13_takeNumber 77 = .ok (.iconst 0, 1) := by decide +kernel
theorem dX13_takeNumber_78 : decode cX13_takeNumber 78 = .ok (.ireturn, 1) := by decide +kernel
theorem dX13_takeNumber_79 : decode cX13_takeNumber 79 = .ok (.aload_n 0, 1) := by decide +kernel
theorem dX13_takeNumber_80 : decode cX13_takeNumber 80 = .ok (.dup, 1) := by decide +kernel
theorem dX13_takeNumber_81 : decode cX13_takeNumber 81 = .ok (.getfield 189, 3) := by decide +kernel
theorem dX13_takeNumber_84 : decode cX13_takeNumber 84 = .ok (.iconst 1, 1) := by decide +kernel
theorem dX13_takeNumber_85 : decode cX13_takeNumber 85 = .ok (.iadd, 1) := by decide +kernel
theorem dX13_takeNumber_86 : decode cX13_takeNumber 86 = .ok (.putfield 189, 3) := by decide +kernel
theorem dX13_takeNumber_89 : decode cX13_takeNumber 89 = .ok (.aload_n 0, 1) := by decide +kernel
theorem dX13_takeNumber_90 : decode cX13_takeNumber 90 = .ok (.getfield 30, 3) := by decide +kernel
theorem dX13_takeNumber_93 : decode cX13_takeNumber 93 = .ok (.aload_n 0, 1) := by decide +kernel
theorem dX13_takeNumber_94 : decode cX13_takeNumber 94 = .ok (.getfield 189, 3) := by decide +kernel
theorem dX13_takeNumber_97 : decode cX13_takeNumber 97 = .ok (.iconst 1, 1) := by decide +kernel
theorem dX13_takeNumber_98 : decode cX13_takeNumber 98 = .ok (.isub, 1) := by decide +kernel
theorem dX13_takeNumber_99 : decode cX13_takeNumber 99 = .ok (.laload, 1) := by decide +kernel
theorem dX13_takeNumber_100 : decode cX13_takeNumber 100 = .ok (.l2i, 1) := by decide +kernel
theorem dX13_takeNumber_101 : decode cX13_takeNumber 101 = .ok (.ireturn, 1) := by decide +kernel
theorem dX13_takeAfter_0 : decode cX13_takeAfter 0 = .ok (.aload_n 0, 1) := by decide +kernel
theorem dX13_takeAfter_1 : decode cX13_takeAfter 1 = .ok (.iload_n 1, 1) := by decide +kernel
theorem dX13_takeAfter_2 : decode cX13_takeAfter 2 = .ok (.invokevirtual 207, 3) := by decide +kernel
theorem dX13_takeAfter_5 : decode cX13_takeAfter 5 = .ok (.aload_n 0, 1) := by decide +kernel
theorem dX13_takeAfter_6 : decode cX13_takeAfter 6 = .ok (.iload_n 2, 1) := by decide +kernel
theorem dX13_takeAfter_7 : decode cX13_takeAfter 7 = .ok (.iload_n 3, 1) := by decide +kernel
theorem dX13_takeAfter_8 : decode cX13_takeAfter 8 = .ok (.invokevirtual 210, 3) := by decide +kernel
theorem dX13_takeAfter_11 : decode cX13_takeAfter 11 = .ok (.ireturn, 1) := by decide +kernel
theorem dX13_wordHere_0 : decode cX13_wordHere 0 = .ok (.iconst (-1), 1) := by decide +kernel
theorem dX13_wordHere_1 : decode cX13_wordHere 1 = .ok (.istore_n 3, 1) := by decide +kernel
theorem dX13_wordHere_2 : decode cX13_wordHere 2 = .ok (.iconst 0, 1) := by decide +kernel
theorem dX13_wordHere_3 : decode cX13_wordHere 3 = .ok (.istore 4, 2) := by decide +kernel
theorem dX13_wordHere_5 : decode cX13_wordHere 5 = .ok (.iload 4, 2) := by decide +kernel
theorem dX13_wordHere_7 : decode cX13_wordHere 7 = .ok (.iload_n 2, 1) := by decide +kernel
theorem dX13_wordHere_8 : decode cX13_wordHere 8 = .ok (.if_icmp .ge 27, 3) := by decide +kernel
theorem dX13_wordHere_11 : decode cX13_wordHere 11 = .ok (.aload_n 0, 1) := by decide +kernel
theorem dX13_wordHere_12 : decode cX13_wordHere 12 = .ok (.iload_n 1, 1) := by decide +kernel
theorem dX13_wordHere_13 : decode cX13_wordHere 13 = .ok (.iload 4, 2) := by decide +kernel
theorem dX13_wordHere_15 : decode cX13_wordHere 15 = .ok (.iadd, 1) := by decide +kernel
theorem dX13_wordHere_16 : decode cX13_wordHere 16 = .ok (.invokevirtual 201, 3) := by decide +kernel
theorem dX13_wordHere_19 : decode cX13_wordHere 19 = .ok (.ifCond .eq 8, 3) := by decide +kernel
theorem dX13_wordHere_22 : decode cX13_wordHere 22 = .ok (.iload 4, 2) := by decide +kernel
theorem dX13_wordHere_24 : decode cX13_wordHere 24 = .ok (.goto 4, 3) := by decide +kernel
theorem dX13_wordHere_27 : decode cX13_wordHere 27 = .ok (.iload_n 3, 1) := by decide +kernel
theorem dX13_wordHere_28 : decode cX13_wordHere 28 = .ok (.istore_n 3, 1) := by decide +kernel
theorem dX13_wordHere_29 : decode cX13_wordHere 29 = .ok (.iinc 4 1, 3) := by decide +kernel
theorem dX13_wordHere_32 : decode cX13_wordHere 32 = .ok (.goto (-27), 3) := by decide +kernel
theorem dX13_wordHere_35 : decode cX13_wordHere 35 = .ok (.iload_n 3, 1) := by decide +kernel
theorem dX13_wordHere_36 : decode cX13_wordHere 36 = .ok (.ireturn, 1) := by decide +kernel
theorem dX13_takeOne_0 : decode cX13_takeOne 0 = .ok (.aload_n 0, 1) := by decide +kernel
theorem dX13_takeOne_1 : decode cX13_takeOne 1 = .ok (.getfield 192, 3) := by decide +kernel
theorem dX13_takeOne_4 : decode cX13_takeOne 4 = .ok (.ifCond .le 7, 3) := by decide +kernel
theorem dX13_takeOne_7 : decode cX13_takeOne 7 = .ok (.iconst (-1), 1) := by decide +kernel
theorem dX13_takeOne_8 : decode cX13_takeOne 8 = .ok (.goto 9, 3) := by decide +kernel
theorem dX13_takeOne_11 : decode cX13_takeOne 11 = .ok (.aload_n 0, 1) := by decide +kernel
theorem dX13_takeOne_12 : decode cX13_takeOne 12 = .ok (.iload_n 1, 1) := by decide +kernel
theorem dX13_takeOne_13 : decode cX13_takeOne 13 = .ok (.iload_n 2, 1) := by decide +kernel
theorem dX13_takeOne_14 : decode cX13_takeOne 14 = .ok (.invokevirtual 214, 3) := by decide +kernel
theorem dX13_takeOne_17 : decode cX13_takeOne 17 = .ok (.istore_n 3, 1) := by decide +kernel
theorem dX13_takeOne_18 : decode cX13_takeOne 18 = .ok (.aload_n 0, 1) := by decide +kernel
theorem dX13_takeOne_19 : decode cX13_takeOne 19 = .ok (.getfield 192, 3) := by decide +kernel
theorem dX13_takeOne_22 : decode cX13_takeOne 22 = .ok (.ifCond .ne 12, 3) := by decide +kernel
theorem dX13_takeOne_25 : decode cX13_takeOne 25 = .ok (.iload_n 3, 1) := by decide +kernel
theorem dX13_takeOne_26 : decode cX13_takeOne 26 = .ok (.ifCond .ge 8, 3) := by decide +kernel
theorem dX13_takeOne_29 : decode cX13_takeOne 29 = .ok (.aload_n 0, 1) := by decide +kernel
theorem dX13_takeOne_30 : decode cX13_takeOne 30 = .ok (.iconst 1, 1) := by decide +kernel
theorem dX13_takeOne_31 : decode cX13_takeOne 31 = .ok (.invokevirtual 198, 3) := by decide +kernel
theorem dX13_takeOne_34 : decode cX13_takeOne 34 = .ok (.aload_n 0, 1) := by decide +kernel
theorem dX13_takeOne_35 : decode cX13_takeOne 35 = .ok (.dup, 1) := by decide +kernel
theorem dX13_takeOne_36 : decode cX13_takeOne 36 = .ok (.getfield 189, 3) := by decide +kernel
theorem dX13_takeOne_39 : decode cX13_takeOne 39 = .ok (.aload_n 0, 1) := by decide +kernel
theorem dX13_takeOne_40 : decode cX13_takeOne 40 = .ok (.getfield 192, 3) := by decide +kernel
theorem dX13_takeOne_43 : decode cX13_takeOne 43 = .ok (.ifCond .le 7, 3) := by decide +kernel
theorem dX13_takeOne_46 : decode cX13_takeOne 46 = .ok (.iconst 0, 1) := by decide +kernel
theorem dX13_takeOne_47 : decode cX13_takeOne 47 = .ok (.goto 4, 3) := by decide +kernel
theorem dX13_takeOne_50 : decode cX13_takeOne 50 = .ok (.iconst 1, 1) := by decide +kernel
theorem dX13_takeOne_51 : decode cX13_takeOne 51 = .ok (.iadd, 1) := by decide +kernel
theorem dX13_takeOne_52 : decode cX13_takeOne 52 = .ok (.putfield 189, 3) := by decide +kernel
theorem dX13_takeOne_55 : decode cX13_takeOne 55 = .ok (.aload_n 0, 1) := by decide +kernel
theorem dX13_takeOne_56 : decode cX13_takeOne 56 = .ok (.getfield 192, 3) := by decide +kernel
theorem dX13_takeOne_59 : decode cX13_takeOne 59 = .ok (.ifCond .le 7, 3) := by decide +kernel
theorem dX13_takeOne_62 : decode cX13_takeOne 62 = .ok (.iconst 0, 1) := by decide +kernel
theorem dX13_takeOne_63 : decode cX13_takeOne 63 = .ok (.goto 4, 3) := by decide +kernel
theorem dX13_takeOne_66 : decode cX13_takeOne 66 = .ok (.iload_n 3, 1) := by decide +kernel
theorem dX13_takeOne_67 : decode cX13_takeOne 67 = .ok (.ireturn, 1) := by decide +kernel
theorem dX13_isName_0 : decode cX13_isName 0 = .ok (.aload_n 0, 1) := by decide +kernel
theorem dX13_isName_1 : decode cX13_isName 1 = .ok (.getfield 192, 3) := by decide +kernel
theorem dX13_isName_4 : decode cX13_isName 4 = .ok (.ifCond .ne 30, 3) := by decide +kernel
theorem dX13_isName_7 : decode cX13_isName 7 = .ok (.aload_n 0, 1) := by decide +kernel
theorem dX13_isName_8 : decode cX13_isName 8 = .ok (.getfield 24, 3) := by decide +kernel
theorem dX13_isName_11 : decode cX13_isName 11 = .ok (.aload_n 0, 1) := by decide +kernel
theorem dX13_isName_12 : decode cX13_isName 12 = .ok (.getfield 189, 3) := by decide +kernel
theorem dX13_isName_15 : decode cX13_isName 15 = .ok (.iaload, 1) := by decide +kernel
theorem dX13_isName_16 : decode cX13_isName 16 = .ok (.iconst 1, 1) := by decide +kernel
theorem dX13_isName_17 : decode cX13_isName 17 = .ok (.if_icmp .ne 17, 3) := by decide +kernel
theorem dX13_isName_20 : decode cX13_isName 20 = .ok (.aload_n 0, 1) := by decide +kernel
theorem dX13_isName_21 : decode cX13_isName 21 = .ok (.iconst 0, 1) := by decide +kernel
theorem dX13_isName_22 : decode cX13_isName 22 = .ok (.bipush 25, 2) := by decide +kernel
theorem dX13_isName_24 : decode cX13_isName 24 = .ok (.invokevirtual 214, 3) := by decide +kernel
theorem dX13_isName_27 : decode cX13_isName 27 = .ok (.ifCond .ge 7, 3) := by decide +kernel
theorem dX13_isName_30 : decode cX13_isName 30 = .ok (.iconst 1, 1) := by decide +kernel
theorem dX13_isName_31 : decode cX13_isName 31 = .ok (.goto 4, 3) := by decide +kernel
theorem dX13_isName_34 : decode cX13_isName 34 = .ok (.iconst 0, 1) := by decide +kernel
theorem dX13_isName_35 : decode cX13_isName 35 = .ok (.ireturn, 1) := by decide +kernel
theorem dX13_find_0 : decode cX13_find 0 = .ok (.iconst 0, 1) := by decide +kernel
theorem dX13_find_1 : decode cX13_find 1 = .ok (.istore_n 2, 1) := by decide +kernel
theorem dX13_find_2 : decode cX13_find 2 = .ok (.iload_n 2, 1) := by decide +kernel
theorem dX13_find_3 : decode cX13_find 3 = .ok (.iload_n 1, 1) := by decide +kernel
theorem dX13_find_4 : decode cX13_find 4 = .ok (.ifCond .eq 10, 3) := by decide +kernel
theorem dX13_find_7 : decode cX13_find 7 = .ok (.aload_n 0, 1) := by decide +kernel
theorem dX13_find_8 : decode cX13_find 8 = .ok (.getfield 217, 3) := by decide +kernel
theorem dX13_find_11 : decode cX13_find 11 = .ok (.goto 7, 3) := by decide +kernel
theorem dX13_find_14 : decode cX13_find 14 = .ok (.aload_n 0, 1) := by decide +kernel
theorem dX13_find_15 : decode cX13_find 15 = .ok (.getfield 220, 3) := by decide +kernel
theorem dX13_find_18 : decode cX13_find 18 = .ok (.if_icmp .ge 61, 3) := by decide +kernel
theorem dX13_find_21 : decode cX13_find 21 = .ok (.iload_n 1, 1) := by decide +kernel
theorem dX13_find_22 : decode cX13_find 22 = .ok (.ifCond .eq 12, 3) := by decide +kernel
theorem dX13_find_25 : decode cX13_find 25 = .ok (.aload_n 0, 1) := by decide +kernel
theorem dX13_find_26 : decode cX13_find 26 = .ok (.getfield 107, 3) := by decide +kernel
theorem dX13_find_29 : decode cX13_find 29 = .ok (.iload_n 2, 1) := by decide +kernel
theorem dX13_find_30 : decode cX13_find 30 = .ok (.laload, 1) := by decide +kernel
theorem dX13_find_31 : decode cX13_find 31 = .ok (.goto 9, 3) := by decide +kernel
theorem dX13_find_34 : decode cX13_find 34 = .ok (.aload_n 0, 1) := by decide +kernel
theorem dX13_find_35 : decode cX13_find 35 = .ok (.getfield 104, 3) := by decide +kernel
theorem dX13_find_38 : decode cX13_find 38 = .ok (.iload_n 2, 1) := by decide +kernel
theorem dX13_find_39 : decode cX13_find 39 = .ok (.laload, 1) := by decide +kernel
theorem dX13_find_40 : decode cX13_find 40 = .ok (.aload_n 0, 1) := by decide +kernel
theorem dX13_find_41 : decode cX13_find 41 = .ok (.getfield 30, 3) := by decide +kernel
theorem dX13_find_44 : decode cX13_find 44 = .ok (.aload_n 0, 1) := by decide +kernel
theorem dX13_find_45 : decode cX13_find 45 = .ok (.getfield 189, 3) := by decide +kernel
theorem dX13_find_48 : decode cX13_find 48 = .ok (.laload, 1) := by decide +kernel
theorem dX13_find_49 : decode cX13_find 49 = .ok (.lcmp, 1) := by decide +kernel
theorem dX13_find_50 : decode cX13_find 50 = .ok (.ifCond .ne 23, 3) := by decide +kernel
theorem dX13_find_53 : decode cX13_find 53 = .ok (.iload_n 1, 1) := by decide +kernel
theorem dX13_find_54 : decode cX13_find 54 = .ok (.ifCond .eq 12, 3) := by decide +kernel
theorem dX13_find_57 : decode cX13_find 57 = .ok (.aload_n 0, 1) := by decide +kernel
theorem dX13_find_58 : decode cX13_find 58 = .ok (.getfield 113, 3) := by decide +kernel
theorem dX13_find_61 : decode cX13_find 61 = .ok (.iload_n 2, 1) := by decide +kernel
theorem dX13_find_62 : decode cX13_find 62 = .ok (.iaload, 1) := by decide +kernel
theorem dX13_find_63 : decode cX13_find 63 = .ok (.goto 9, 3) := by decide +kernel
theorem dX13_find_66 : decode cX13_find 66 = .ok (.aload_n 0, 1) := by decide +kernel
theorem dX13_find_67 : decode cX13_find 67 = .ok (.getfield 110, 3) := by decide +kernel
theorem dX13_find_70 : decode cX13_find 70 = .ok (.iload_n 2, 1) := by decide +kernel
theorem dX13_find_71 : decode cX13_find 71 = .ok (.iaload, 1) := by decide +kernel
theorem dX13_find_72 : decode cX13_find 72 = .ok (.ireturn, 1) := by decide +kernel
theorem dX13_find_73 : decode cX13_find 73 = .ok (.iinc 2 1, 3) := by decide +kernel
theorem dX13_find_76 : decode cX13_find 76 = .ok (.goto (-74), 3) := by decide +kernel
theorem dX13_find_79 : decode cX13_find 79 = .ok (.iconst (-1), 1) := by decide +kernel
theorem dX13_find_80 : decode cX13_find 80 = .ok (.ireturn, 1) := by decide +kernel
theorem dX13_toldHere_0 : decode cX13_toldHere 0 = .ok (.aload_n 0, 1) := by decide +kernel
theorem dX13_toldHere_1 : decode cX13_toldHere 1 = .ok (.getfield 192, 3) := by decide +kernel
theorem dX13_toldHere_4 : decode cX13_toldHere 4 = .ok (.ifCond .ne 15, 3) := by decide +kernel
theorem dX13_toldHere_7 : decode cX13_toldHere 7 = .ok (.aload_n 0, 1) := by decide +kernel
theorem dX13_toldHere_8 : decode cX13_toldHere 8 = .ok (.invokevirtual 223, 3) := by decide +kernel
theorem dX13_toldHere_11 : decode cX13_toldHere 11 = .ok (.ifCond .ne 8, 3) := by decide +kernel
theorem dX13_toldHere_14 : decode cX13_toldHere 14 = .ok (.aload_n 0, 1) := by decide +kernel
theorem dX13_toldHere_15 : decode cX13_toldHere 15 = .ok (.iconst 1, 1) := by decide +kernel
theorem dX13_toldHere_16 : decode cX13_toldHere 16 = .ok (.invokevirtual 198, 3) := by decide +kernel
theorem dX13_toldHere_19 : decode cX13_toldHere 19 = .ok (.aload_n 0, 1) := by decide +kernel
theorem dX13_toldHere_20 : decode cX13_toldHere 20 = .ok (.getfield 192, 3) := by decide +kernel
theorem dX13_toldHere_23 : decode cX13_toldHere 23 = .ok (.ifCond .le 7, 3) := by decide +kernel
theorem dX13_toldHere_26 : decode cX13_toldHere 26 = .ok (.iconst (-1), 1) := by decide +kernel
theorem dX13_toldHere_27 : decode cX13_toldHere 27 = .ok (.goto 10, 3) := by decide +kernel
theorem dX13_toldHere_30 : decode cX13_toldHere 30 = .ok (.aload_n 0, 1) := by decide +kernel
theorem dX13_toldHere_31 : decode cX13_toldHere 31 = .ok (.iload_n 1, 1) := by decide +kernel
theorem dX13_toldHere_32 : decode cX13_toldHere 32 = .ok (.invokevirtual 227, 3) := by decide +kernel
theorem dX13_toldHere_35 : decode cX13_toldHere 35 = .ok (.iload_n 2, 1) := by decide +kernel
theorem dX13_toldHere_36 : decode cX13_toldHere 36 = .ok (.isub, 1) := by decide +kernel
theorem dX13_toldHere_37 : decode cX13_toldHere 37 = .ok (.istore_n 3, 1) := by decide +kernel
theorem dX13_toldHere_38 : decode cX13_toldHere 38 = .ok (.aload_n 0, 1) := by decide +kernel
theorem dX13_toldHere_39 : decode cX13_toldHere 39 = .ok (.getfield 192, 3) := by decide +kernel
theorem dX13_toldHere_42 : decode cX13_toldHere 42 = .ok (.ifCond .ne 18, 3) := by decide +kernel
theorem dX13_toldHere_45 : decode cX13_toldHere 45 = .ok (.iload_n 3, 1) := by decide +kernel
theorem dX13_toldHere_46 : decode cX13_toldHere 46 = .ok (.iconst 0, 1) := by decide +kernel
theorem dX13_toldHere_47 : decode cX13_toldHere 47 = .ok (.bipush 7, 2) := by decide +kernel
theorem dX13_toldHere_49 : decode cX13_toldHere 49 = .ok (.invokestatic 231, 3) := by decide +kernel
theorem dX13_toldHere_52 : decode cX13_toldHere 52 = .ok (.ifCond .ne 8, 3) := by decide +kernel
theorem dX13_toldHere_55 : decode cX13_toldHere 55 = .ok (.aload_n 0, 1) := by decide +kernel
theorem dX13_toldHere_56 : decode cX13_toldHere 56 = .ok (.iconst 2, 1) := by decide +kernel
theorem dX13_toldHere_57 : decode cX13_toldHere 57 = .ok (.invokevirtual 198, 3) := by decide +kernel
theorem dX13_toldHere_60 : decode cX13_toldHere 60 = .ok (.aload_n 0, 1) := by decide +kernel
theorem dX13_toldHere_61 : decode cX13_toldHere 61 = .ok (.getfield 192, 3) := by decide +kernel
theorem dX13_toldHere_64 : decode cX13_toldHere 64 = .ok (.ifCond .le 7, 3) := by decide +kernel
theorem dX13_toldHere_67 : decode cX13_toldHere 67 = .ok (.iconst 0, 1) := by decide +kernel
theorem dX13_toldHere_68 : decode cX13_toldHere 68 = .ok (.goto 4, 3) := by decide +kernel
theorem dX13_toldHere_71 : decode cX13_toldHere 71 = .ok (.iload_n 3, 1) := by decide +kernel
theorem dX13_toldHere_72 : decode cX13_toldHere 72 = .ok (.ireturn, 1) := by decide +kernel
theorem dX13_takeTold_0 : decode cX13_takeTold 0 = .ok (.aload_n 0, 1) := by decide +kernel
theorem dX13_takeTold_1 : decode cX13_takeTold 1 = .ok (.iload_n 1, 1) := by decide +kernel
theorem dX13_takeTold_2 : decode cX13_takeTold 2 = .ok (.iload_n 2, 1) := by decide +kernel
theorem dX13_takeTold_3 : decode cX13_takeTold 3 = .ok (.invokevirtual 235, 3) := by decide +kernel
theorem dX13_takeTold_6 : decode cX13_takeTold 6 = .ok (.istore_n 3, 1) := by decide +kernel
theorem dX13_takeTold_7 : decode cX13_takeTold 7 = .ok (.aload_n 0, 1) := by decide +kernel
theorem dX13_takeTold_8 : decode cX13_takeTold 8 = .ok (.dup, 1) := by decide +kernel
theorem dX13_takeTold_9 : decode cX13_takeTold 9 = .ok (.getfield 189, 3) := by decide +kernel
theorem dX13_takeTold_12 : decode cX13_takeTold 12 = .ok (.aload_n 0, 1) := by decide +kernel
theorem dX13_takeTold_13 : decode cX13_takeTold 13 = .ok (.getfield 192, 3) := by decide +kernel
theorem dX13_takeTold_16 : decode cX13_takeTold 16 = .ok (.ifCond .le 7, 3) := by decide +kernel
theorem dX13_takeTold_19 : decode cX13_takeTold 19 = .ok (.iconst 0, 1) := by decide +kernel
theorem dX13_takeTold_20 : decode cX13_takeTold 20 = .ok (.goto 4, 3) := by decide +kernel
theorem dX13_takeTold_23 : decode cX13_takeTold 23 = .ok (.iconst 1, 1) := by decide +kernel
theorem dX13_takeTold_24 : decode cX13_takeTold 24 = .ok (.iadd, 1) := by decide +kernel
theorem dX13_takeTold_25 : decode cX13_takeTold 25 = .ok (.putfield 189, 3) := by decide +kernel
theorem dX13_takeTold_28 : decode cX13_takeTold 28 = .ok (.iload_n 3, 1) := by decide +kernel
theorem dX13_takeTold_29 : decode cX13_takeTold 29 = .ok (.ireturn, 1) := by decide +kernel
theorem dX13_gallery_0 : decode cX13_gallery 0 = .ok (.aload_n 0, 1) := by decide +kernel
theorem dX13_gallery_1 : decode cX13_gallery 1 = .ok (.iconst 0, 1) := by decide +kernel
theorem dX13_gallery_2 : decode cX13_gallery 2 = .ok (.putfield 1, 3) := by decide +kernel
theorem dX13_gallery_5 : decode cX13_gallery 5 = .ok (.aload_n 0, 1) := by decide +kernel
theorem dX13_gallery_6 : decode cX13_gallery 6 = .ok (.invokevirtual 239, 3) := by decide +kernel
theorem dX13_gallery_9 : decode cX13_gallery 9 = .ok (.aload_n 0, 1) := by decide +kernel
theorem dX13_gallery_10 : decode cX13_gallery 10 = .ok (.iconst 0, 1) := by decide +kernel
theorem dX13_gallery_11 : decode cX13_gallery 11 = .ok (.putfield 242, 3) := by decide +kernel
theorem dX13_gallery_14 : decode cX13_gallery 14 = .ok (.aload_n 0, 1) := by decide +kernel
theorem dX13_gallery_15 : decode cX13_gallery 15 = .ok (.iconst 0, 1) := by decide +kernel
theorem dX13_gallery_16 : decode cX13_gallery 16 = .ok (.putfield 217, 3) := by decide +kernel
theorem dX13_gallery_19 : decode cX13_gallery 19 = .ok (.aload_n 0, 1) := by decide +kernel
theorem dX13_gallery_20 : decode cX13_gallery 20 = .ok (.bipush 70, 2) := by decide +kernel
theorem dX13_gallery_22 : decode cX13_gallery 22 = .ok (.invokevirtual 159, 3) := by decide +kernel
theorem dX13_gallery_25 : decode cX13_gallery 25 = .ok (.aload_n 0, 1) := by decide +kernel
theorem dX13_gallery_26 : decode cX13_gallery 26 = .ok (.getfield 192, 3) := by decide +kernel
theorem dX13_gallery_29 : decode cX13_gallery 29 = .ok (.ifCond .ne 28, 3) := by decide +kernel
theorem dX13_gallery_32 : decode cX13_gallery 32 = .ok (.aload_n 0, 1) := by decide +kernel
theorem dX13_gallery_33 : decode cX13_gallery 33 = .ok (.getfield 24, 3) := by decide +kernel
theorem dX13_gallery_36 : decode cX13_gallery 36 = .ok (.aload_n 0, 1) := by decide +kernel
theorem dX13_gallery_37 : decode cX13_gallery 37 = .ok (.getfield 189, 3) := by decide +kernel
theorem dX13_gallery_40 : decode cX13_gallery 40 = .ok (.iaload, 1) := by decide +kernel
theorem dX13_gallery_41 : decode cX13_gallery 41 = .ok (.ifCond .eq 16, 3) := by decide +kernel
theorem dX13_gallery_44 : decode cX13_gallery 44 = .ok (.aload_n 0, 1) := by decide +kernel
theorem dX13_gallery_45 : decode cX13_gallery 45 = .ok (.invokevirtual 245, 3) := by decide +kernel
theorem dX13_gallery_48 : decode cX13_gallery 48 = .ok (.aload_n 0, 1) := by decide +kernel
theorem dX13_gallery_49 : decode cX13_gallery 49 = .ok (.bipush 59, 2) := by decide +kernel
theorem dX13_gallery_51 : decode cX13_gallery 51 = .ok (.invokevirtual 248, 3) := by decide +kernel
theorem dX13_gallery_54 : decode cX13_gallery 54 = .ok (.goto (-29), 3) := by decide +kernel
theorem dX13_gallery_57 : decode cX13_gallery 57 = .ok (.aload_n 0, 1) := by decide +kernel
theorem dX13_gallery_58 : decode cX13_gallery 58 = .ok (.getfield 192, 3) := by decide +kernel
theorem dX13_gallery_61 : decode cX13_gallery 61 = .ok (.ifCond .le 8, 3) := by decide +kernel
theorem dX13_gallery_64 : decode cX13_gallery 64 = .ok (.aload_n 0, 1) := by decide +kernel
theorem dX13_gallery_65 : decode cX13_gallery 65 = .ok (.getfield 192, 3) := by decide +kernel
theorem dX13_gallery_68 : decode cX13_gallery 68 = .ok (.ireturn, 1) := by decide +kernel
theorem dX13_gallery_69 : decode cX13_gallery 69 = .ok (.iconst 0, 1) := by decide +kernel
theorem dX13_gallery_70 : decode cX13_gallery 70 = .ok (.istore_n 1, 1) := by decide +kernel
theorem dX13_gallery_71 : decode cX13_gallery 71 = .ok (.iload_n 1, 1) := by decide +kernel
theorem dX13_gallery_72 : decode cX13_gallery 72 = .ok (.bipush 70, 2) := by decide +kernel
theorem dX13_gallery_74 : decode cX13_gallery 74 = .ok (.if_icmp .ge 24, 3) := by decide +kernel
theorem dX13_gallery_77 : decode cX13_gallery 77 = .ok (.aload_n 0, 1) := by decide +kernel
theorem dX13_gallery_78 : decode cX13_gallery 78 = .ok (.getfield 95, 3) := by decide +kernel
theorem dX13_gallery_81 : decode cX13_gallery 81 = .ok (.iload_n 1, 1) := by decide +kernel
theorem dX13_gallery_82 : decode cX13_gallery 82 = .ok (.aload_n 0, 1) := by decide +kernel
theorem dX13_gallery_83 : decode cX13_gallery 83 = .ok (.getfield 95, 3) := by decide +kernel
theorem dX13_gallery_86 : decode cX13_gallery 86 = .ok (.bipush 70, 2) := by decide +kernel
theorem dX13_gallery_88 : decode cX13_gallery 88 = .ok (.iload_n 1, 1) := by decide +kernel
theorem dX13_gallery_89 : decode cX13_gallery 89 = .ok (.iadd, 1) := by decide +kernel
theorem dX13_gallery_90 : decode cX13_gallery 90 = .ok (.iaload, 1) := by decide +kernel
theorem dX13_gallery_91 : decode cX13_gallery 91 = .ok (.iastore, 1) := by decide +kernel
theorem dX13_gallery_92 : decode cX13_gallery 92 = .ok (.iinc 1 1, 3) := by decide +kernel
theorem dX13_gallery_95 : decode cX13_gallery 95 = .ok (.goto (-24), 3) := by decide +kernel
theorem dX13_gallery_98 : decode cX13_gallery 98 = .ok (.iconst 0, 1) := by decide +kernel
theorem dX13_gallery_99 : decode cX13_gallery 99 = .ok (.istore_n 1, 1) := by decide +kernel
theorem dX13_gallery_100 : decode cX13_gallery 100 = .ok (.iload_n 1, 1) := by decide +kernel
theorem dX13_gallery_101 : decode cX13_gallery 101 = .ok (.aload_n 0, 1) := by decide +kernel
theorem dX13_gallery_102 : decode cX13_gallery 102 = .ok (.getfield 242, 3) := by decide +kernel
theorem dX13_gallery_105 : decode cX13_gallery 105 = .ok (.if_icmp .ge 41, 3) := by decide +kernel
theorem dX13_gallery_108 : decode cX13_gallery 108 = .ok (.aload_n 0, 1) := by decide +kernel
theorem dX13_gallery_109 : decode cX13_gallery 109 = .ok (.getfield 98, 3) := by decide +kernel
theorem dX13_gallery_112 : decode cX13_gallery 112 = .ok (.iload_n 1, 1) := by decide +kernel
theorem dX13_gallery_113 : decode cX13_gallery 113 = .ok (.aload_n 0, 1) := by decide +kernel
theorem dX13_gallery_114 : decode cX13_gallery 114 = .ok (.getfield 98, 3) := by decide +kernel
theorem dX13_gallery_117 : decode cX13_gallery 117 = .ok (.sipush 1100, 3) := by decide +kernel
theorem dX13_gallery_120 : decode cX13_gallery 120 = .ok (.iload_n 1, 1) := by decide +kernel
theorem dX13_gallery_121 : decode cX13_gallery 121 = .ok (.iadd, 1) := by decide +kernel
theorem dX13_gallery_122 : decode cX13_gallery 122 = .ok (.iaload, 1) := by decide +kernel
theorem dX13_gallery_123 : decode cX13_gallery 123 = .ok (.iastore, 1) := by decide +kernel
theorem dX13_gallery_124 : decode cX13_gallery 124 = .ok (.aload_n 0, 1) := by decide +kernel
theorem dX13_gallery_125 : decode cX13_gallery 125 = .ok (.getfield 101, 3) := by decide +kernel
theorem dX13_gallery_128 : decode cX13_gallery 128 = .ok (.iload_n 1, 1) := by decide +kernel
theorem dX13_gallery_129 : decode cX13_gallery 129 = .ok (.aload_n 0, 1) := by decide +kernel
theorem dX13_gallery_130 : decode cX13_gallery 130 = .ok (.getfield 101, 3) := by decide +kernel
theorem dX13_gallery_133 : decode cX13_gallery 133 = .ok (.sipush 1100, 3) := by decide +kernel
theorem dX13_gallery_136 : decode cX13_gallery 136 = .ok (.iload_n 1, 1) := by decide +kernel
theorem dX13_gallery_137 : decode cX13_gallery 137 = .ok (.iadd, 1) := by decide +kernel
theorem dX13_gallery_138 : decode cX13_gallery 138 = .ok (.iaload, 1) := by decide +kernel
theorem dX13_gallery_139 : decode cX13_gallery 139 = .ok (.iastore, 1) := by decide +kernel
theorem dX13_gallery_140 : decode cX13_gallery 140 = .ok (.iinc 1 1, 3) := by decide +kernel
theorem dX13_gallery_143 : decode cX13_gallery 143 = .ok (.goto (-43), 3) := by decide +kernel
theorem dX13_gallery_146 : decode cX13_gallery 146 = .ok (.iconst 0, 1) := by decide +kernel
theorem dX13_gallery_147 : decode cX13_gallery 147 = .ok (.istore_n 1, 1) := by decide +kernel
theorem dX13_gallery_148 : decode cX13_gallery 148 = .ok (.iload_n 1, 1) := by decide +kernel
theorem dX13_gallery_149 : decode cX13_gallery 149 = .ok (.aload_n 0, 1) := by decide +kernel
theorem dX13_gallery_150 : decode cX13_gallery 150 = .ok (.getfield 217, 3) := by decide +kernel
theorem dX13_gallery_153 : decode cX13_gallery 153 = .ok (.if_icmp .ge 33, 3) := by decide +kernel
theorem dX13_gallery_156 : decode cX13_gallery 156 = .ok (.aload_n 0, 1) := by decide +kernel
theorem dX13_gallery_157 : decode cX13_gallery 157 = .ok (.getfield 104, 3) := by decide +kernel
theorem dX13_gallery_160 : decode cX13_gallery 160 = .ok (.iload_n 1, 1) := by decide +kernel
theorem dX13_gallery_161 : decode cX13_gallery 161 = .ok (.aload_n 0, 1) := by decide +kernel
theorem dX13_gallery_162 : decode cX13_gallery 162 = .ok (.getfield 107, 3) := by decide +kernel
theorem dX13_gallery_165 : decode cX13_gallery 165 = .ok (.iload_n 1, 1) := by decide +kernel
theorem dX13_gallery_166 : decode cX13_gallery 166 = .ok (.laload, 1) := by decide +kernel
theorem dX13_gallery_167 : decode cX13_gallery 167 = .ok (.lastore, 1) := by decide +kernel
theorem dX13_gallery_168 : decode cX13_gallery 168 = .ok (.aload_n 0, 1) := by decide +kernel
theorem dX13_gallery_169 : decode cX13_gallery 169 = .ok (.getfield 110, 3) := by decide +kernel
theorem dX13_gallery_172 : decode cX13_gallery 172 = .ok (.iload_n 1, 1) := by decide +kernel
theorem dX13_gallery_173 : decode cX13_gallery 173 = .ok (.aload_n 0, 1) := by decide +kernel
theorem dX13_gallery_174 : decode cX13_gallery 174 = .ok (.getfield 113, 3) := by decide +kernel
theorem dX13_gallery_177 : decode cX13_gallery 177 = .ok (.iload_n 1, 1) := by decide +kernel
theorem dX13_gallery_178 : decode cX13_gallery 178 = .ok (.iaload, 1) := by decide +kernel
theorem dX13_gallery_179 : decode cX13_gallery 179 = .ok (.iastore, 1) := by decide +kernel
theorem dX13_gallery_180 : decode cX13_gallery 180 = .ok (.iinc 1 1, 3) := by decide +kernel
theorem dX13_gallery_183 : decode cX13_gallery 183 = .ok (.goto (-35), 3) := by decide +kernel
theorem dX13_gallery_186 : decode cX13_gallery 186 = .ok (.aload_n 0, 1) := by decide +kernel
theorem dX13_gallery_187 : decode cX13_gallery 187 = .ok (.aload_n 0, 1) := by decide +kernel
theorem dX13_gallery_188 : decode cX13_gallery 188 = .ok (.getfield 217, 3) := by decide +kernel
theorem dX13_gallery_191 : decode cX13_gallery 191 = .ok (.putfield 220, 3) := by decide +kernel
theorem dX13_gallery_194 : decode cX13_gallery 194 = .ok (.aload_n 0, 1) := by decide +kernel
theorem dX13_gallery_195 : decode cX13_gallery 195 = .ok (.invokevirtual 163, 3) := by decide +kernel
theorem dX13_gallery_198 : decode cX13_gallery 198 = .ok (.iconst 0, 1) := by decide +kernel
theorem dX13_gallery_199 : decode cX13_gallery 199 = .ok (.ireturn, 1) := by decide +kernel
theorem dX13_readLine_0 : decode cX13_readLine 0 = .ok (.aload_n 0, 1) := by decide +kernel
theorem dX13_readLine_1 : decode cX13_readLine 1 = .ok (.iconst 0, 1) := by decide +kernel
theorem dX13_readLine_2 : decode cX13_readLine 2 = .ok (.invokevirtual 201, 3) := by decide +kernel
theorem dX13_readLine_5 : decode cX13_readLine 5 = .ok (.ifCond .eq 10, 3) := by decide +kernel
theorem dX13_readLine_8 : decode cX13_readLine 8 = .ok (.aload_n 0, 1) := by decide +kernel
theorem dX13_readLine_9 : decode cX13_readLine 9 = .ok (.invokevirtual 251, 3) := by decide +kernel
theorem dX13_readLine_12 : decode cX13_readLine 12 = .ok (.goto 53, 3) := by decide +kernel
theorem dX13_readLine_15 : decode cX13_readLine 15 = .ok (.aload_n 0, 1) := by decide +kernel
theorem dX13_readLine_16 : decode cX13_readLine 16 = .ok (.iconst 1, 1) := by decide +kernel
theorem dX13_readLine_17 : decode cX13_readLine 17 = .ok (.invokevirtual 201, 3) := by decide +kernel
theorem dX13_readLine_20 : decode cX13_readLine 20 = .ok (.ifCond .eq 10, 3) := by decide +kernel
theorem dX13_readLine_23 : decode cX13_readLine 23 = .ok (.aload_n 0, 1) := by decide +kernel
theorem dX13_readLine_24 : decode cX13_readLine 24 = .ok (.invokevirtual 254, 3) := by decide +kernel
theorem dX13_readLine_27 : decode cX13_readLine 27 = .ok (.goto 38, 3) := by decide +kernel
theorem dX13_readLine_30 : decode cX13_readLine 30 = .ok (.aload_n 0, 1) := by decide +kernel
theorem dX13_readLine_31 : decode cX13_readLine 31 = .ok (.iconst 5, 1) := by decide +kernel
theorem dX13_readLine_32 : decode cX13_readLine 32 = .ok (.invokevirtual 201, 3) := by decide +kernel
theorem dX13_readLine_35 : decode cX13_readLine 35 = .ok (.ifCond .eq 10, 3) := by decide +kernel
theorem dX13_readLine_38 : decode cX13_readLine 38 = .ok (.aload_n 0, 1) := by decide +kernel
theorem dX13_readLine_39 : decode cX13_readLine 39 = .ok (.invokevirtual 257, 3) := by decide +kernel
theorem dX13_readLine_42 : decode cX13_readLine 42 = .ok (.goto 23, 3) := by decide +kernel
theorem dX13_readLine_45 : decode cX13_readLine 45 = .ok (.aload_n 0, 1) := by decide +kernel
theorem dX13_readLine_46 : decode cX13_readLine 46 = .ok (.bipush 9, 2) := by decide +kernel
theorem dX13_readLine_48 : decode cX13_readLine 48 = .ok (.invokevirtual 201, 3) := by decide +kernel
theorem dX13_readLine_51 : decode cX13_readLine 51 = .ok (.ifCond .eq 10, 3) := by decide +kernel
theorem dX13_readLine_54 : decode cX13_readLine 54 = .ok (.aload_n 0, 1) := by decide +kernel
theorem dX13_readLine_55 : decode cX13_readLine 55 = .ok (.invokevirtual 260, 3) := by decide +kernel
theorem dX13_readLine_58 : decode cX13_readLine 58 = .ok (.goto 7, 3) := by decide +kernel
theorem dX13_readLine_61 : decode cX13_readLine 61 = .ok (.aload_n 0, 1) := by decide +kernel
theorem dX13_readLine_62 : decode cX13_readLine 62 = .ok (.invokevirtual 263, 3) := by decide +kernel
theorem dX13_readLine_65 : decode cX13_readLine 65 = .ok (.return_, 1) := by decide +kernel
theorem dX13_readName_0 : decode cX13_readName 0 = .ok (.aload_n 0, 1) := by decide +kernel
theorem dX13_readName_1 : decode cX13_readName 1 = .ok (.dup, 1) := by decide +kernel
theorem dX13_readName_2 : decode cX13_readName 2 = .ok (.getfield 189, 3) := by decide +kernel
theorem dX13_readName_5 : decode cX13_readName 5 = .ok (.iconst 1, 1) := by decide +kernel
theorem dX13_readName_6 : decode cX13_readName 6 = .ok (.iadd, 1) := by decide +kernel
theorem dX13_readName_7 : decode cX13_readName 7 = .ok (.putfield 189, 3) := by decide +kernel
theorem dX13_readName_10 : decode cX13_readName 10 = .ok (.aload_n 0, 1) := by decide +kernel
theorem dX13_readName_11 : decode cX13_readName 11 = .ok (.invokevirtual 223, 3) := by decide +kernel
theorem dX13_readName_14 : decode cX13_readName 14 = .ok (.ifCond .ne 11, 3) := by decide +kernel
theorem dX13_readName_17 : decode cX13_readName 17 = .ok (.aload_n 0, 1) := by decide +kernel
theorem dX13_readName_18 : decode cX13_readName 18 = .ok (.iconst 1, 1) := by decide +kernel
theorem dX13_readName_19 : decode cX13_readName 19 = .ok (.invokevirtual 198, 3) := by decide +kernel
theorem dX13_readName_22 : decode cX13_readName 22 = .ok (.goto 16, 3) := by decide +kernel
theorem dX13_readName_25 : decode cX13_readName 25 = .ok (.aload_n 0, 1) := by decide +kernel
theorem dX13_readName_26 : decode cX13_readName 26 = .ok (.iconst 1, 1) := by decide +kernel
theorem dX13_readName_27 : decode cX13_readName 27 = .ok (.invokevirtual 227, 3) := by decide +kernel
theorem dX13_readName_30 : decode cX13_readName 30 = .ok (.ifCond .lt 8, 3) := by decide +kernel
theorem dX13_readName_33 : decode cX13_readName 33 = .ok (.aload_n 0, 1) := by decide +kernel
theorem dX13_readName_34 : decode cX13_readName 34 = .ok (.iconst 3, 1) := by decide +kernel
theorem dX13_readName_35 : decode cX13_readName 35 = .ok (.invokevirtual 198, 3) := by decide +kernel
theorem dX13_readName_38 : decode cX13_readName 38 = .ok (.aload_n 0, 1) := by decide +kernel
theorem dX13_readName_39 : decode cX13_readName 39 = .ok (.getfield 192, 3) := by decide +kernel
theorem dX13_readName_42 : decode cX13_readName 42 = .ok (.ifCond .ne 51, 3) := by decide +kernel
theorem dX13_readName_45 : decode cX13_readName 45 = .ok (.aload_n 0, 1) := by decide +kernel
theorem dX13_readName_46 : decode cX13_readName 46 = .ok (.getfield 107, 3) := by decide +kernel
theorem dX13_readName_49 : decode cX13_readName 49 = .ok (.aload_n 0, 1) := by decide +kernel
theorem dX13_readName_50 : decode cX13_readName 50 = .ok (.getfield 217, 3) := by decide +kernel
theorem dX13_readName_53 : decode cX13_readName 53 = .ok (.aload_n 0, 1) := by decide +kernel
theorem dX13_readName_54 : decode cX13_readName 54 = .ok (.getfield 30, 3) := by decide +kernel
theorem dX13_readName_57 : decode cX13_readName 57 = .ok (.aload_n 0, 1) := by decide +kernel
theorem dX13_readName_58 : decode cX13_readName 58 = .ok (.getfield 189, 3) := by decide +kernel
theorem dX13_readName_61 : decode cX13_readName 61 = .ok (.laload, 1) := by decide +kernel
theorem dX13_readName_62 : decode cX13_readName 62 = .ok (.lastore, 1) := by decide +kernel
theorem dX13_readName_63 : decode cX13_readName 63 = .ok (.aload_n 0, 1) := by decide +kernel
theorem dX13_readName_64 : decode cX13_readName 64 = .ok (.getfield 113, 3) := by decide +kernel
theorem dX13_readName_67 : decode cX13_readName 67 = .ok (.aload_n 0, 1) := by decide +kernel
theorem dX13_readName_68 : decode cX13_readName 68 = .ok (.getfield 217, 3) := by decide +kernel
theorem dX13_readName_71 : decode cX13_readName 71 = .ok (.iload_n 1, 1) := by decide +kernel
theorem dX13_readName_72 : decode cX13_readName 72 = .ok (.iastore, 1) := by decide +kernel
theorem dX13_readName_73 : decode cX13_readName 73 = .ok (.aload_n 0, 1) := by decide +kernel
theorem dX13_readName_74 : decode cX13_readName 74 = .ok (.dup, 1) := by decide +kernel
theorem dX13_readName_75 : decode cX13_readName 75 = .ok (.getfield 217, 3) := by decide +kernel
theorem dX13_readName_78 : decode cX13_readName 78 = .ok (.iconst 1, 1) := by decide +kernel
theorem dX13_readName_79 : decode cX13_readName 79 = .ok (.iadd, 1) := by decide +kernel
theorem dX13_readName_80 : decode cX13_readName 80 = .ok (.putfield 217, 3) := by decide +kernel
theorem dX13_readName_83 : decode cX13_readName 83 = .ok (.aload_n 0, 1) := by decide +kernel
theorem dX13_readName_84 : decode cX13_readName 84 = .ok (.dup, 1) := by decide +kernel
theorem dX13_readName_85 : decode cX13_readName 85 = .ok (.getfield 189, 3) := by decide +kernel
theorem dX13_readName_88 : decode cX13_readName 88 = .ok (.iconst 1, 1) := by decide +kernel
