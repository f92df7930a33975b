theorem dX13_readName_89 : decode cX13_readName 89 = .ok (.iadd, 1) := by decide +kernel
theorem dX13_readName_90 : decode cX13_readName 90 = .ok (.putfield 189, 3) := by decide +kernel
theorem dX13_readName_93 : decode cX13_readName 93 = .ok (.return_, 1) := by decide +kernel
theorem dX13_readSpot_0 : decode cX13_readSpot 0 = .ok (.aload_n 0, 1) := by decide +kernel
theorem dX13_readSpot_1 : decode cX13_readSpot 1 = .ok (.getfield 95, 3) := by decide +kernel
theorem dX13_readSpot_4 : decode cX13_readSpot 4 = .ok (.bipush 70, 2) := by decide +kernel
theorem dX13_readSpot_6 : decode cX13_readSpot 6 = .ok (.iaload, 1) := by decide +kernel
theorem dX13_readSpot_7 : decode cX13_readSpot 7 = .ok (.istore_n 1, 1) := by decide +kernel
theorem dX13_readSpot_8 : decode cX13_readSpot 8 = .ok (.iload_n 1, 1) := by decide +kernel
theorem dX13_readSpot_9 : decode cX13_readSpot 9 = .ok (.bipush 8, 2) := by decide +kernel
theorem dX13_readSpot_11 : decode cX13_readSpot 11 = .ok (.if_icmp .ne 9, 3) := by decide +kernel
theorem dX13_readSpot_14 : decode cX13_readSpot 14 = .ok (.aload_n 0, 1) := by decide +kernel
theorem dX13_readSpot_15 : decode cX13_readSpot 15 = .ok (.iconst 5, 1) := by decide +kernel
theorem dX13_readSpot_16 : decode cX13_readSpot 16 = .ok (.invokevirtual 198, 3) := by decide +kernel
theorem dX13_readSpot_19 : decode cX13_readSpot 19 = .ok (.return_, 1) := by decide +kernel
theorem dX13_readSpot_20 : decode cX13_readSpot 20 = .ok (.aload_n 0, 1) := by decide +kernel
theorem dX13_readSpot_21 : decode cX13_readSpot 21 = .ok (.iload_n 1, 1) := by decide +kernel
theorem dX13_readSpot_22 : decode cX13_readSpot 22 = .ok (.invokevirtual 266, 3) := by decide +kernel
theorem dX13_readSpot_25 : decode cX13_readSpot 25 = .ok (.aload_n 0, 1) := by decide +kernel
theorem dX13_readSpot_26 : decode cX13_readSpot 26 = .ok (.getfield 95, 3) := by decide +kernel
theorem dX13_readSpot_29 : decode cX13_readSpot 29 = .ok (.bipush 70, 2) := by decide +kernel
theorem dX13_readSpot_31 : decode cX13_readSpot 31 = .ok (.dup2, 1) := by decide +kernel
theorem dX13_readSpot_32 : decode cX13_readSpot 32 = .ok (.iaload, 1) := by decide +kernel
theorem dX13_readSpot_33 : decode cX13_readSpot 33 = .ok (.iconst 1, 1) := by decide +kernel
theorem dX13_readSpot_34 : decode cX13_readSpot 34 = .ok (.iadd, 1) := by decide +kernel
theorem dX13_readSpot_35 : decode cX13_readSpot 35 = .ok (.iastore, 1) := by decide +kernel
theorem dX13_readSpot_36 : decode cX13_readSpot 36 = .ok (.return_, 1) := by decide +kernel
theorem dX13_readThief_0 : decode cX13_readThief 0 = .ok (.aload_n 0, 1) := by decide +kernel
theorem dX13_readThief_1 : decode cX13_readThief 1 = .ok (.getfield 95, 3) := by decide +kernel
theorem dX13_readThief_4 : decode cX13_readThief 4 = .ok (.bipush 71, 2) := by decide +kernel
theorem dX13_readThief_6 : decode cX13_readThief 6 = .ok (.iaload, 1) := by decide +kernel
theorem dX13_readThief_7 : decode cX13_readThief 7 = .ok (.istore_n 1, 1) := by decide +kernel
theorem dX13_readThief_8 : decode cX13_readThief 8 = .ok (.iload_n 1, 1) := by decide +kernel
theorem dX13_readThief_9 : decode cX13_readThief 9 = .ok (.iconst 5, 1) := by decide +kernel
theorem dX13_readThief_10 : decode cX13_readThief 10 = .ok (.if_icmp .ne 9, 3) := by decide +kernel
theorem dX13_readThief_13 : decode cX13_readThief 13 = .ok (.aload_n 0, 1) := by decide +kernel
theorem dX13_readThief_14 : decode cX13_readThief 14 = .ok (.iconst 5, 1) := by decide +kernel
theorem dX13_readThief_15 : decode cX13_readThief 15 = .ok (.invokevirtual 198, 3) := by decide +kernel
theorem dX13_readThief_18 : decode cX13_readThief 18 = .ok (.return_, 1) := by decide +kernel
theorem dX13_readThief_19 : decode cX13_readThief 19 = .ok (.aload_n 0, 1) := by decide +kernel
theorem dX13_readThief_20 : decode cX13_readThief 20 = .ok (.bipush 20, 2) := by decide +kernel
theorem dX13_readThief_22 : decode cX13_readThief 22 = .ok (.iload_n 1, 1) := by decide +kernel
theorem dX13_readThief_23 : decode cX13_readThief 23 = .ok (.iadd, 1) := by decide +kernel
theorem dX13_readThief_24 : decode cX13_readThief 24 = .ok (.invokevirtual 266, 3) := by decide +kernel
theorem dX13_readThief_27 : decode cX13_readThief 27 = .ok (.bipush 76, 2) := by decide +kernel
theorem dX13_readThief_29 : decode cX13_readThief 29 = .ok (.iconst 4, 1) := by decide +kernel
theorem dX13_readThief_30 : decode cX13_readThief 30 = .ok (.iload_n 1, 1) := by decide +kernel
theorem dX13_readThief_31 : decode cX13_readThief 31 = .ok (.imul, 1) := by decide +kernel
theorem dX13_readThief_32 : decode cX13_readThief 32 = .ok (.iadd, 1) := by decide +kernel
theorem dX13_readThief_33 : decode cX13_readThief 33 = .ok (.istore_n 2, 1) := by decide +kernel
theorem dX13_readThief_34 : decode cX13_readThief 34 = .ok (.aload_n 0, 1) := by decide +kernel
theorem dX13_readThief_35 : decode cX13_readThief 35 = .ok (.getfield 95, 3) := by decide +kernel
theorem dX13_readThief_38 : decode cX13_readThief 38 = .ok (.iload_n 2, 1) := by decide +kernel
theorem dX13_readThief_39 : decode cX13_readThief 39 = .ok (.aload_n 0, 1) := by decide +kernel
theorem dX13_readThief_40 : decode cX13_readThief 40 = .ok (.bipush 18, 2) := by decide +kernel
theorem dX13_readThief_42 : decode cX13_readThief 42 = .ok (.iconst 4, 1) := by decide +kernel
theorem dX13_readThief_43 : decode cX13_readThief 43 = .ok (.invokevirtual 269, 3) := by decide +kernel
theorem dX13_readThief_46 : decode cX13_readThief 46 = .ok (.iastore, 1) := by decide +kernel
theorem dX13_readThief_47 : decode cX13_readThief 47 = .ok (.aload_n 0, 1) := by decide +kernel
theorem dX13_readThief_48 : decode cX13_readThief 48 = .ok (.getfield 95, 3) := by decide +kernel
theorem dX13_readThief_51 : decode cX13_readThief 51 = .ok (.iload_n 2, 1) := by decide +kernel
theorem dX13_readThief_52 : decode cX13_readThief 52 = .ok (.iconst 1, 1) := by decide +kernel
theorem dX13_readThief_53 : decode cX13_readThief 53 = .ok (.iadd, 1) := by decide +kernel
theorem dX13_readThief_54 : decode cX13_readThief 54 = .ok (.aload_n 0, 1) := by decide +kernel
theorem dX13_readThief_55 : decode cX13_readThief 55 = .ok (.iconst 2, 1) := by decide +kernel
theorem dX13_readThief_56 : decode cX13_readThief 56 = .ok (.iconst 0, 1) := by decide +kernel
theorem dX13_readThief_57 : decode cX13_readThief 57 = .ok (.bipush 99, 2) := by decide +kernel
theorem dX13_readThief_59 : decode cX13_readThief 59 = .ok (.invokevirtual 272, 3) := by decide +kernel
theorem dX13_readThief_62 : decode cX13_readThief 62 = .ok (.iastore, 1) := by decide +kernel
theorem dX13_readThief_63 : decode cX13_readThief 63 = .ok (.aload_n 0, 1) := by decide +kernel
theorem dX13_readThief_64 : decode cX13_readThief 64 = .ok (.getfield 95, 3) := by decide +kernel
theorem dX13_readThief_67 : decode cX13_readThief 67 = .ok (.iload_n 2, 1) := by decide +kernel
theorem dX13_readThief_68 : decode cX13_readThief 68 = .ok (.iconst 2, 1) := by decide +kernel
theorem dX13_readThief_69 : decode cX13_readThief 69 = .ok (.iadd, 1) := by decide +kernel
theorem dX13_readThief_70 : decode cX13_readThief 70 = .ok (.aload_n 0, 1) := by decide +kernel
theorem dX13_readThief_71 : decode cX13_readThief 71 = .ok (.iconst 3, 1) := by decide +kernel
theorem dX13_readThief_72 : decode cX13_readThief 72 = .ok (.iconst 0, 1) := by decide +kernel
theorem dX13_readThief_73 : decode cX13_readThief 73 = .ok (.sipush 999, 3) := by decide +kernel
theorem dX13_readThief_76 : decode cX13_readThief 76 = .ok (.invokevirtual 272, 3) := by decide +kernel
theorem dX13_readThief_79 : decode cX13_readThief 79 = .ok (.iastore, 1) := by decide +kernel
theorem dX13_readThief_80 : decode cX13_readThief 80 = .ok (.aload_n 0, 1) := by decide +kernel
theorem dX13_readThief_81 : decode cX13_readThief 81 = .ok (.iconst 4, 1) := by decide +kernel
theorem dX13_readThief_82 : decode cX13_readThief 82 = .ok (.invokevirtual 207, 3) := by decide +kernel
theorem dX13_readThief_85 : decode cX13_readThief 85 = .ok (.aload_n 0, 1) := by decide +kernel
theorem dX13_readThief_86 : decode cX13_readThief 86 = .ok (.getfield 95, 3) := by decide +kernel
theorem dX13_readThief_89 : decode cX13_readThief 89 = .ok (.iload_n 2, 1) := by decide +kernel
theorem dX13_readThief_90 : decode cX13_readThief 90 = .ok (.iconst 3, 1) := by decide +kernel
theorem dX13_readThief_91 : decode cX13_readThief 91 = .ok (.iadd, 1) := by decide +kernel
theorem dX13_readThief_92 : decode cX13_readThief 92 = .ok (.aload_n 0, 1) := by decide +kernel
theorem dX13_readThief_93 : decode cX13_readThief 93 = .ok (.invokevirtual 276, 3) := by decide +kernel
theorem dX13_readThief_96 : decode cX13_readThief 96 = .ok (.iastore, 1) := by decide +kernel
theorem dX13_readThief_97 : decode cX13_readThief 97 = .ok (.aload_n 0, 1) := by decide +kernel
theorem dX13_readThief_98 : decode cX13_readThief 98 = .ok (.getfield 95, 3) := by decide +kernel
theorem dX13_readThief_101 : decode cX13_readThief 101 = .ok (.bipush 71, 2) := by decide +kernel
theorem dX13_readThief_103 : decode cX13_readThief 103 = .ok (.dup2, 1) := by decide +kernel
theorem dX13_readThief_104 : decode cX13_readThief 104 = .ok (.iaload, 1) := by decide +kernel
theorem dX13_readThief_105 : decode cX13_readThief 105 = .ok (.iconst 1, 1) := by decide +kernel
theorem dX13_readThief_106 : decode cX13_readThief 106 = .ok (.iadd, 1) := by decide +kernel
theorem dX13_readThief_107 : decode cX13_readThief 107 = .ok (.iastore, 1) := by decide +kernel
theorem dX13_readThief_108 : decode cX13_readThief 108 = .ok (.return_, 1) := by decide +kernel
theorem dX13_readHours_0 : decode cX13_readHours 0 = .ok (.iconst 0, 1) := by decide +kernel
theorem dX13_readHours_1 : decode cX13_readHours 1 = .ok (.istore_n 1, 1) := by decide +kernel
theorem dX13_readHours_2 : decode cX13_readHours 2 = .ok (.iconst 0, 1) := by decide +kernel
theorem dX13_readHours_3 : decode cX13_readHours 3 = .ok (.istore_n 2, 1) := by decide +kernel
theorem dX13_readHours_4 : decode cX13_readHours 4 = .ok (.aload_n 0, 1) := by decide +kernel
theorem dX13_readHours_5 : decode cX13_readHours 5 = .ok (.getfield 192, 3) := by decide +kernel
theorem dX13_readHours_8 : decode cX13_readHours 8 = .ok (.ifCond .ne 89, 3) := by decide +kernel
theorem dX13_readHours_11 : decode cX13_readHours 11 = .ok (.iload_n 2, 1) := by decide +kernel
theorem dX13_readHours_12 : decode cX13_readHours 12 = .ok (.ifCond .eq 16, 3) := by decide +kernel
theorem dX13_readHours_15 : decode cX13_readHours 15 = .ok (.aload_n 0, 1) := by decide +kernel
theorem dX13_readHours_16 : decode cX13_readHours 16 = .ok (.getfield 24, 3) := by decide +kernel
theorem dX13_readHours_19 : decode cX13_readHours 19 = .ok (.aload_n 0, 1) := by decide +kernel
theorem dX13_readHours_20 : decode cX13_readHours 20 = .ok (.getfield 189, 3) := by decide +kernel
theorem dX13_readHours_23 : decode cX13_readHours 23 = .ok (.iaload, 1) := by decide +kernel
theorem dX13_readHours_24 : decode cX13_readHours 24 = .ok (.iconst 2, 1) := by decide +kernel
theorem dX13_readHours_25 : decode cX13_readHours 25 = .ok (.if_icmp .ne 72, 3) := by decide +kernel
theorem dX13_readHours_28 : decode cX13_readHours 28 = .ok (.aload_n 0, 1) := by decide +kernel
theorem dX13_readHours_29 : decode cX13_readHours 29 = .ok (.iconst 0, 1) := by decide +kernel
theorem dX13_readHours_30 : decode cX13_readHours 30 = .ok (.bipush 23, 2) := by decide +kernel
theorem dX13_readHours_32 : decode cX13_readHours 32 = .ok (.invokevirtual 210, 3) := by decide +kernel
theorem dX13_readHours_35 : decode cX13_readHours 35 = .ok (.istore_n 3, 1) := by decide +kernel
theorem dX13_readHours_36 : decode cX13_readHours 36 = .ok (.aload_n 0, 1) := by decide +kernel
theorem dX13_readHours_37 : decode cX13_readHours 37 = .ok (.getfield 192, 3) := by decide +kernel
theorem dX13_readHours_40 : decode cX13_readHours 40 = .ok (.ifCond .ne 45, 3) := by decide +kernel
theorem dX13_readHours_43 : decode cX13_readHours 43 = .ok (.iload_n 1, 1) := by decide +kernel
theorem dX13_readHours_44 : decode cX13_readHours 44 = .ok (.iload_n 3, 1) := by decide +kernel
theorem dX13_readHours_45 : decode cX13_readHours 45 = .ok (.ishr, 1) := by decide +kernel
theorem dX13_readHours_46 : decode cX13_readHours 46 = .ok (.iconst 1, 1) := by decide +kernel
theorem dX13_readHours_47 : decode cX13_readHours 47 = .ok (.iand, 1) := by decide +kernel
theorem dX13_readHours_48 : decode cX13_readHours 48 = .ok (.iconst 1, 1) := by decide +kernel
theorem dX13_readHours_49 : decode cX13_readHours 49 = .ok (.if_icmp .eq 8, 3) := by decide +kernel
theorem dX13_readHours_52 : decode cX13_readHours 52 = .ok (.iload_n 2, 1) := by decide +kernel
theorem dX13_readHours_53 : decode cX13_readHours 53 = .ok (.iconst 4, 1) := by decide +kernel
theorem dX13_readHours_54 : decode cX13_readHours 54 = .ok (.if_icmp .ne 31, 3) := by decide +kernel
theorem dX13_readHours_57 : decode cX13_readHours 57 = .ok (.aload_n 0, 1) := by decide +kernel
theorem dX13_readHours_58 : decode cX13_readHours 58 = .ok (.dup, 1) := by decide +kernel
theorem dX13_readHours_59 : decode cX13_readHours 59 = .ok (.getfield 189, 3) := by decide +kernel
theorem dX13_readHours_62 : decode cX13_readHours 62 = .ok (.iconst 1, 1) := by decide +kernel
theorem dX13_readHours_63 : decode cX13_readHours 63 = .ok (.isub, 1) := by decide +kernel
theorem dX13_readHours_64 : decode cX13_readHours 64 = .ok (.putfield 189, 3) := by decide +kernel
theorem dX13_readHours_67 : decode cX13_readHours 67 = .ok (.aload_n 0, 1) := by decide +kernel
theorem dX13_readHours_68 : decode cX13_readHours 68 = .ok (.iload_n 1, 1) := by decide +kernel
theorem dX13_readHours_69 : decode cX13_readHours 69 = .ok (.iload_n 3, 1) := by decide +kernel
theorem dX13_readHours_70 : decode cX13_readHours 70 = .ok (.ishr, 1) := by decide +kernel
theorem dX13_readHours_71 : decode cX13_readHours 71 = .ok (.iconst 1, 1) := by decide +kernel
theorem dX13_readHours_72 : decode cX13_readHours 72 = .ok (.iand, 1) := by decide +kernel
theorem dX13_readHours_73 : decode cX13_readHours 73 = .ok (.iconst 1, 1) := by decide +kernel
theorem dX13_readHours_74 : decode cX13_readHours 74 = .ok (.if_icmp .ne 7, 3) := by decide +kernel
theorem dX13_readHours_77 : decode cX13_readHours 77 = .ok (.iconst 3, 1) := by decide +kernel
theorem dX13_readHours_78 : decode cX13_readHours 78 = .ok (.goto 4, 3) := by decide +kernel
theorem dX13_readHours_81 : decode cX13_readHours 81 = .ok (.iconst 5, 1) := by decide +kernel
theorem dX13_readHours_82 : decode cX13_readHours 82 = .ok (.invokevirtual 198, 3) := by decide +kernel
theorem dX13_readHours_85 : decode cX13_readHours 85 = .ok (.iload_n 1, 1) := by decide +kernel
theorem dX13_readHours_86 : decode cX13_readHours 86 = .ok (.iconst 1, 1) := by decide +kernel
theorem dX13_readHours_87 : decode cX13_readHours 87 = .ok (.iload_n 3, 1) := by decide +kernel
theorem dX13_readHours_88 : decode cX13_readHours 88 = .ok (.ishl, 1) := by decide +kernel
theorem dX13_readHours_89 : decode cX13_readHours 89 = .ok (.ior, 1) := by decide +kernel
theorem dX13_readHours_90 : decode cX13_readHours 90 = .ok (.istore_n 1, 1) := by decide +kernel
theorem dX13_readHours_91 : decode cX13_readHours 91 = .ok (.iinc 2 1, 3) := by decide +kernel
theorem dX13_readHours_94 : decode cX13_readHours 94 = .ok (.goto (-90), 3) := by decide +kernel
theorem dX13_readHours_97 : decode cX13_readHours 97 = .ok (.iload_n 1, 1) := by decide +kernel
theorem dX13_readHours_98 : decode cX13_readHours 98 = .ok (.ireturn, 1) := by decide +kernel
theorem dX13_readSpots_0 : decode cX13_readSpots 0 = .ok (.iconst 0, 1) := by decide +kernel
theorem dX13_readSpots_1 : decode cX13_readSpots 1 = .ok (.istore_n 2, 1) := by decide +kernel
theorem dX13_readSpots_2 : decode cX13_readSpots 2 = .ok (.iconst 0, 1) := by decide +kernel
theorem dX13_readSpots_3 : decode cX13_readSpots 3 = .ok (.istore_n 3, 1) := by decide +kernel
theorem dX13_readSpots_4 : decode cX13_readSpots 4 = .ok (.aload_n 0, 1) := by decide +kernel
theorem dX13_readSpots_5 : decode cX13_readSpots 5 = .ok (.getfield 192, 3) := by decide +kernel
theorem dX13_readSpots_8 : decode cX13_readSpots 8 = .ok (.ifCond .ne 97, 3) := by decide +kernel
theorem dX13_readSpots_11 : decode cX13_readSpots 11 = .ok (.iload_n 3, 1) := by decide +kernel
theorem dX13_readSpots_12 : decode cX13_readSpots 12 = .ok (.ifCond .eq 10, 3) := by decide +kernel
theorem dX13_readSpots_15 : decode cX13_readSpots 15 = .ok (.aload_n 0, 1) := by decide +kernel
theorem dX13_readSpots_16 : decode cX13_readSpots 16 = .ok (.invokevirtual 223, 3) := by decide +kernel
theorem dX13_readSpots_19 : decode cX13_readSpots 19 = .ok (.ifCond .eq 86, 3) := by decide +kernel
theorem dX13_readSpots_22 : decode cX13_readSpots 22 = .ok (.aload_n 0, 1) := by decide +kernel
theorem dX13_readSpots_23 : decode cX13_readSpots 23 = .ok (.iconst 1, 1) := by decide +kernel
theorem dX13_readSpots_24 : decode cX13_readSpots 24 = .ok (.iconst 0, 1) := by decide +kernel
theorem dX13_readSpots_25 : decode cX13_readSpots 25 = .ok (.invokevirtual 235, 3) := by decide +kernel
theorem dX13_readSpots_28 : decode cX13_readSpots 28 = .ok (.istore 4, 2) := by decide +kernel
theorem dX13_readSpots_30 : decode cX13_readSpots 30 = .ok (.aload_n 0, 1) := by decide +kernel
theorem dX13_readSpots_31 : decode cX13_readSpots 31 = .ok (.getfield 192, 3) := by decide +kernel
theorem dX13_readSpots_34 : decode cX13_readSpots 34 = .ok (.ifCond .ne 37, 3) := by decide +kernel
theorem dX13_readSpots_37 : decode cX13_readSpots 37 = .ok (.iload_n 2, 1) := by decide +kernel
theorem dX13_readSpots_38 : decode cX13_readSpots 38 = .ok (.iload 4, 2) := by decide +kernel
theorem dX13_readSpots_40 : decode cX13_readSpots 40 = .ok (.ishr, 1) := by decide +kernel
theorem dX13_readSpots_41 : decode cX13_readSpots 41 = .ok (.iconst 1, 1) := by decide +kernel
theorem dX13_readSpots_42 : decode cX13_readSpots 42 = .ok (.iand, 1) := by decide +kernel
theorem dX13_readSpots_43 : decode cX13_readSpots 43 = .ok (.iconst 1, 1) := by decide +kernel
theorem dX13_readSpots_44 : decode cX13_readSpots 44 = .ok (.if_icmp .eq 8, 3) := by decide +kernel
theorem dX13_readSpots_47 : decode cX13_readSpots 47 = .ok (.iload_n 3, 1) := by decide +kernel
theorem dX13_readSpots_48 : decode cX13_readSpots 48 = .ok (.iload_n 1, 1) := by decide +kernel
theorem dX13_readSpots_49 : decode cX13_readSpots 49 = .ok (.if_icmp .ne 22, 3) := by decide +kernel
theorem dX13_readSpots_52 : decode cX13_readSpots 52 = .ok (.aload_n 0, 1) := by decide +kernel
theorem dX13_readSpots_53 : decode cX13_readSpots 53 = .ok (.iload_n 2, 1) := by decide +kernel
theorem dX13_readSpots_54 : decode cX13_readSpots 54 = .ok (.iload 4, 2) := by decide +kernel
theorem dX13_readSpots_56 : decode cX13_readSpots 56 = .ok (.ishr, 1) := by decide +kernel
theorem dX13_readSpots_57 : decode cX13_readSpots 57 = .ok (.iconst 1, 1) := by decide +kernel
theorem dX13_readSpots_58 : decode cX13_readSpots 58 = .ok (.iand, 1) := by decide +kernel
theorem dX13_readSpots_59 : decode cX13_readSpots 59 = .ok (.iconst 1, 1) := by decide +kernel
theorem dX13_readSpots_60 : decode cX13_readSpots 60 = .ok (.if_icmp .ne 7, 3) := by decide +kernel
theorem dX13_readSpots_63 : decode cX13_readSpots 63 = .ok (.iconst 3, 1) := by decide +kernel
theorem dX13_readSpots_64 : decode cX13_readSpots 64 = .ok (.goto 4, 3) := by decide +kernel
theorem dX13_readSpots_67 : decode cX13_readSpots 67 = .ok (.iconst 5, 1) := by decide +kernel
theorem dX13_readSpots_68 : decode cX13_readSpots 68 = .ok (.invokevirtual 198, 3) := by decide +kernel
theorem dX13_readSpots_71 : decode cX13_readSpots 71 = .ok (.aload_n 0, 1) := by decide +kernel
theorem dX13_readSpots_72 : decode cX13_readSpots 72 = .ok (.dup, 1) := by decide +kernel
theorem dX13_readSpots_73 : decode cX13_readSpots 73 = .ok (.getfield 189, 3) := by decide +kernel
theorem dX13_readSpots_76 : decode cX13_readSpots 76 = .ok (.aload_n 0, 1) := by decide +kernel
theorem dX13_readSpots_77 : decode cX13_readSpots 77 = .ok (.getfield 192, 3) := by decide +kernel
theorem dX13_readSpots_80 : decode cX13_readSpots 80 = .ok (.ifCond .le 7, 3) := by decide +kernel
theorem dX13_readSpots_83 : decode cX13_readSpots 83 = .ok (.iconst 0, 1) := by decide +kernel
theorem dX13_readSpots_84 : decode cX13_readSpots 84 = .ok (.goto 4, 3) := by decide +kernel
theorem dX13_readSpots_87 : decode cX13_readSpots 87 = .ok (.iconst 1, 1) := by decide +kernel
theorem dX13_readSpots_88 : decode cX13_readSpots 88 = .ok (.iadd, 1) := by decide +kernel
theorem dX13_readSpots_89 : decode cX13_readSpots 89 = .ok (.putfield 189, 3) := by decide +kernel
theorem dX13_readSpots_92 : decode cX13_readSpots 92 = .ok (.iload_n 2, 1) := by decide +kernel
theorem dX13_readSpots_93 : decode cX13_readSpots 93 = .ok (.iconst 1, 1) := by decide +kernel
theorem dX13_readSpots_94 : decode cX13_readSpots 94 = .ok (.iload 4, 2) := by decide +kernel
theorem dX13_readSpots_96 : decode cX13_readSpots 96 = .ok (.ishl, 1) := by decide +kernel
theorem dX13_readSpots_97 : decode cX13_readSpots 97 = .ok (.ior, 1) := by decide +kernel
theorem dX13_readSpots_98 : decode cX13_readSpots 98 = .ok (.istore_n 2, 1) := by decide +kernel
theorem dX13_readSpots_99 : decode cX13_readSpots 99 = .ok (.iinc 3 1, 3) := by decide +kernel
theorem dX13_readSpots_102 : decode cX13_readSpots 102 = .ok (.goto (-98), 3) := by decide +kernel
theorem dX13_readSpots_105 : decode cX13_readSpots 105 = .ok (.iload_n 2, 1) := by decide +kernel
theorem dX13_readSpots_106 : decode cX13_readSpots 106 = .ok (.ireturn, 1) := by decide +kernel
theorem dX13_firstOf_0 : decode cX13_firstOf 0 = .ok (.iconst 0, 1) := by decide +kernel
theorem dX13_firstOf_1 : decode cX13_firstOf 1 = .ok (.istore_n 1, 1) := by decide +kernel
theorem dX13_firstOf_2 : decode cX13_firstOf 2 = .ok (.iload_n 1, 1) := by decide +kernel
theorem dX13_firstOf_3 : decode cX13_firstOf 3 = .ok (.bipush 29, 2) := by decide +kernel
theorem dX13_firstOf_5 : decode cX13_firstOf 5 = .ok (.if_icmp .ge 17, 3) := by decide +kernel
theorem dX13_firstOf_8 : decode cX13_firstOf 8 = .ok (.iload_n 0, 1) := by decide +kernel
theorem dX13_firstOf_9 : decode cX13_firstOf 9 = .ok (.iload_n 1, 1) := by decide +kernel
theorem dX13_firstOf_10 : decode cX13_firstOf 10 = .ok (.ishr, 1) := by decide +kernel
theorem dX13_firstOf_11 : decode cX13_firstOf 11 = .ok (.iconst 1, 1) := by decide +kernel
theorem dX13_firstOf_12 : decode cX13_firstOf 12 = .ok (.iand, 1) := by decide +kernel
theorem dX13_firstOf_13 : decode cX13_firstOf 13 = .ok (.ifCond .ne 9, 3) := by decide +kernel
theorem dX13_firstOf_16 : decode cX13_firstOf 16 = .ok (.iinc 1 1, 3) := by decide +kernel
theorem dX13_firstOf_19 : decode cX13_firstOf 19 = .ok (.goto (-17), 3) := by decide +kernel
theorem dX13_firstOf_22 : decode cX13_firstOf 22 = .ok (.iload_n 1, 1) := by decide +kernel
theorem dX13_firstOf_23 : decode cX13_firstOf 23 = .ok (.ireturn, 1) := by decide +kernel
theorem dX13_readCopy_0 : decode cX13_readCopy 0 = .ok (.aload_n 0, 1) := by decide +kernel
theorem dX13_readCopy_1 : decode cX13_readCopy 1 = .ok (.getfield 95, 3) := by decide +kernel
theorem dX13_readCopy_4 : decode cX13_readCopy 4 = .ok (.bipush 73, 2) := by decide +kernel
theorem dX13_readCopy_6 : decode cX13_readCopy 6 = .ok (.iaload, 1) := by decide +kernel
theorem dX13_readCopy_7 : decode cX13_readCopy 7 = .ok (.istore_n 1, 1) := by decide +kernel
theorem dX13_readCopy_8 : decode cX13_readCopy 8 = .ok (.iload_n 1, 1) := by decide +kernel
theorem dX13_readCopy_9 : decode cX13_readCopy 9 = .ok (.bipush 8, 2) := by decide +kernel
theorem dX13_readCopy_11 : decode cX13_readCopy 11 = .ok (.if_icmp .ne 9, 3) := by decide +kernel
theorem dX13_readCopy_14 : decode cX13_readCopy 14 = .ok (.aload_n 0, 1) := by decide +kernel
theorem dX13_readCopy_15 : decode cX13_readCopy 15 = .ok (.iconst 5, 1) := by decide +kernel
theorem dX13_readCopy_16 : decode cX13_readCopy 16 = .ok (.invokevirtual 198, 3) := by decide +kernel
theorem dX13_readCopy_19 : decode cX13_readCopy 19 = .ok (.return_, 1) := by decide +kernel
theorem dX13_readCopy_20 : decode cX13_readCopy 20 = .ok (.aload_n 0, 1) := by decide +kernel
theorem dX13_readCopy_21 : decode cX13_readCopy 21 = .ok (.dup, 1) := by decide +kernel
theorem dX13_readCopy_22 : decode cX13_readCopy 22 = .ok (.getfield 189, 3) := by decide +kernel
theorem dX13_readCopy_25 : decode cX13_readCopy 25 = .ok (.iconst 1, 1) := by decide +kernel
theorem dX13_readCopy_26 : decode cX13_readCopy 26 = .ok (.iadd, 1) := by decide +kernel
theorem dX13_readCopy_27 : decode cX13_readCopy 27 = .ok (.putfield 189, 3) := by decide +kernel
theorem dX13_readCopy_30 : decode cX13_readCopy 30 = .ok (.bipush 100, 2) := by decide +kernel
theorem dX13_readCopy_32 : decode cX13_readCopy 32 = .ok (.iconst 4, 1) := by decide +kernel
theorem dX13_readCopy_33 : decode cX13_readCopy 33 = .ok (.iload_n 1, 1) := by decide +kernel
theorem dX13_readCopy_34 : decode cX13_readCopy 34 = .ok (.imul, 1) := by decide +kernel
theorem dX13_readCopy_35 : decode cX13_readCopy 35 = .ok (.iadd, 1) := by decide +kernel
theorem dX13_readCopy_36 : decode cX13_readCopy 36 = .ok (.istore_n 2, 1) := by decide +kernel
theorem dX13_readCopy_37 : decode cX13_readCopy 37 = .ok (.aload_n 0, 1) := by decide +kernel
theorem dX13_readCopy_38 : decode cX13_readCopy 38 = .ok (.getfield 95, 3) := by decide +kernel
theorem dX13_readCopy_41 : decode cX13_readCopy 41 = .ok (.iload_n 2, 1) := by decide +kernel
theorem dX13_readCopy_42 : decode cX13_readCopy 42 = .ok (.aload_n 0, 1) := by decide +kernel
theorem dX13_readCopy_43 : decode cX13_readCopy 43 = .ok (.bipush 6, 2) := by decide +kernel
theorem dX13_readCopy_45 : decode cX13_readCopy 45 = .ok (.iconst 0, 1) := by decide +kernel
theorem dX13_readCopy_46 : decode cX13_readCopy 46 = .ok (.iload_n 1, 1) := by decide +kernel
theorem dX13_readCopy_47 : decode cX13_readCopy 47 = .ok (.iconst 1, 1) := by decide +kernel
theorem dX13_readCopy_48 : decode cX13_readCopy 48 = .ok (.isub, 1) := by decide +kernel
theorem dX13_readCopy_49 : decode cX13_readCopy 49 = .ok (.invokevirtual 272, 3) := by decide +kernel
theorem dX13_readCopy_52 : decode cX13_readCopy 52 = .ok (.iastore, 1) := by decide +kernel
theorem dX13_readCopy_53 : decode cX13_readCopy 53 = .ok (.aload_n 0, 1) := by decide +kernel
theorem dX13_readCopy_54 : decode cX13_readCopy 54 = .ok (.bipush 7, 2) := by decide +kernel
theorem dX13_readCopy_56 : decode cX13_readCopy 56 = .ok (.invokevirtual 207, 3) := by decide +kernel
theorem dX13_readCopy_59 : decode cX13_readCopy 59 = .ok (.aload_n 0, 1) := by decide +kernel
theorem dX13_readCopy_60 : decode cX13_readCopy 60 = .ok (.getfield 95, 3) := by decide +kernel
theorem dX13_readCopy_63 : decode cX13_readCopy 63 = .ok (.iload_n 2, 1) := by decide +kernel
theorem dX13_readCopy_64 : decode cX13_readCopy 64 = .ok (.iconst 1, 1) := by decide +kernel
theorem dX13_readCopy_65 : decode cX13_readCopy 65 = .ok (.iadd, 1) := by decide +kernel
theorem dX13_readCopy_66 : decode cX13_readCopy 66 = .ok (.aload_n 0, 1) := by decide +kernel
theorem dX13_readCopy_67 : decode cX13_readCopy 67 = .ok (.iconst 3, 1) := by decide +kernel
theorem dX13_readCopy_68 : decode cX13_readCopy 68 = .ok (.invokevirtual 280, 3) := by decide +kernel
theorem dX13_readCopy_71 : decode cX13_readCopy 71 = .ok (.iastore, 1) := by decide +kernel
theorem dX13_readCopy_72 : decode cX13_readCopy 72 = .ok (.aload_n 0, 1) := by decide +kernel
theorem dX13_readCopy_73 : decode cX13_readCopy 73 = .ok (.getfield 95, 3) := by decide +kernel
theorem dX13_readCopy_76 : decode cX13_readCopy 76 = .ok (.iload_n 2, 1) := by decide +kernel
theorem dX13_readCopy_77 : decode cX13_readCopy 77 = .ok (.iconst 2, 1) := by decide +kernel
theorem dX13_readCopy_78 : decode cX13_readCopy 78 = .ok (.iadd, 1) := by decide +kernel
theorem dX13_readCopy_79 : decode cX13_readCopy 79 = .ok (.aload_n 0, 1) := by decide +kernel
theorem dX13_readCopy_80 : decode cX13_readCopy 80 = .ok (.getfield 95, 3) := by decide +kernel
theorem dX13_readCopy_83 : decode cX13_readCopy 83 = .ok (.iload_n 2, 1) := by decide +kernel
theorem dX13_readCopy_84 : decode cX13_readCopy 84 = .ok (.iconst 1, 1) := by decide +kernel
theorem dX13_readCopy_85 : decode cX13_readCopy 85 = .ok (.iadd, 1) := by decide +kernel
theorem dX13_readCopy_86 : decode cX13_readCopy 86 = .ok (.iaload, 1) := by decide +kernel
theorem dX13_readCopy_87 : decode cX13_readCopy 87 = .ok (.invokestatic 283, 3) := by decide +kernel
theorem dX13_readCopy_90 : decode cX13_readCopy 90 = .ok (.iastore, 1) := by decide +kernel
theorem dX13_readCopy_91 : decode cX13_readCopy 91 = .ok (.aload_n 0, 1) := by decide +kernel
theorem dX13_readCopy_92 : decode cX13_readCopy 92 = .ok (.bipush 8, 2) := by decide +kernel
theorem dX13_readCopy_94 : decode cX13_readCopy 94 = .ok (.invokevirtual 207, 3) := by decide +kernel
theorem dX13_readCopy_97 : decode cX13_readCopy 97 = .ok (.aload_n 0, 1) := by decide +kernel
theorem dX13_readCopy_98 : decode cX13_readCopy 98 = .ok (.getfield 95, 3) := by decide +kernel
theorem dX13_readCopy_101 : decode cX13_readCopy 101 = .ok (.iload_n 2, 1) := by decide +kernel
theorem dX13_readCopy_102 : decode cX13_readCopy 102 = .ok (.iconst 3, 1) := by decide +kernel
theorem dX13_readCopy_103 : decode cX13_readCopy 103 = .ok (.iadd, 1) := by decide +kernel
theorem dX13_readCopy_104 : decode cX13_readCopy 104 = .ok (.aload_n 0, 1) := by decide +kernel
theorem dX13_readCopy_105 : decode cX13_readCopy 105 = .ok (.iconst 1, 1) := by decide +kernel
theorem dX13_readCopy_106 : decode cX13_readCopy 106 = .ok (.bipush 20, 2) := by decide +kernel
theorem dX13_readCopy_108 : decode cX13_readCopy 108 = .ok (.invokevirtual 286, 3) := by decide +kernel
theorem dX13_readCopy_111 : decode cX13_readCopy 111 = .ok (.iastore, 1) := by decide +kernel
theorem dX13_readCopy_112 : decode cX13_readCopy 112 = .ok (.aload_n 0, 1) := by decide +kernel
theorem dX13_readCopy_113 : decode cX13_readCopy 113 = .ok (.getfield 95, 3) := by decide +kernel
theorem dX13_readCopy_116 : decode cX13_readCopy 116 = .ok (.bipush 73, 2) := by decide +kernel
theorem dX13_readCopy_118 : decode cX13_readCopy 118 = .ok (.dup2, 1) := by decide +kernel
theorem dX13_readCopy_119 : decode cX13_readCopy 119 = .ok (.iaload, 1) := by decide +kernel
theorem dX13_readCopy_120 : decode cX13_readCopy 120 = .ok (.iconst 1, 1) := by decide +kernel
theorem dX13_readCopy_121 : decode cX13_readCopy 121 = .ok (.iadd, 1) := by decide +kernel
theorem dX13_readCopy_122 : decode cX13_readCopy 122 = .ok (.iastore, 1) := by decide +kernel
theorem dX13_readCopy_123 : decode cX13_readCopy 123 = .ok (.return_, 1) := by decide +kernel
theorem dX13_readExpert_0 : decode cX13_readExpert 0 = .ok (.aload_n 0, 1) := by decide +kernel
theorem dX13_readExpert_1 : decode cX13_readExpert 1 = .ok (.getfield 95, 3) := by decide +kernel
theorem dX13_readExpert_4 : decode cX13_readExpert 4 = .ok (.bipush 72, 2) := by decide +kernel
theorem dX13_readExpert_6 : decode cX13_readExpert 6 = .ok (.iaload, 1) := by decide +kernel
theorem dX13_readExpert_7 : decode cX13_readExpert 7 = .ok (.istore_n 1, 1) := by decide +kernel
theorem dX13_readExpert_8 : decode cX13_readExpert 8 = .ok (.iload_n 1, 1) := by decide +kernel
theorem dX13_readExpert_9 : decode cX13_readExpert 9 = .ok (.iconst 4, 1) := by decide +kernel
theorem dX13_readExpert_10 : decode cX13_readExpert 10 = .ok (.if_icmp .ne 9, 3) := by decide +kernel
theorem dX13_readExpert_13 : decode cX13_readExpert 13 = .ok (.aload_n 0, 1) := by decide +kernel
theorem dX13_readExpert_14 : decode cX13_readExpert 14 = .ok (.iconst 5, 1) := by decide +kernel
theorem dX13_readExpert_15 : decode cX13_readExpert 15 = .ok (.invokevirtual 198, 3) := by decide +kernel
theorem dX13_readExpert_18 : decode cX13_readExpert 18 = .ok (.return_, 1) := by decide +kernel
theorem dX13_readExpert_19 : decode cX13_readExpert 19 = .ok (.aload_n 0, 1) := by decide +kernel
theorem dX13_readExpert_20 : decode cX13_readExpert 20 = .ok (.bipush 40, 2) := by decide +kernel
theorem dX13_readExpert_22 : decode cX13_readExpert 22 = .ok (.invokevirtual 266, 3) := by decide +kernel
theorem dX13_readExpert_25 : decode cX13_readExpert 25 = .ok (.aload_n 0, 1) := by decide +kernel
theorem dX13_readExpert_26 : decode cX13_readExpert 26 = .ok (.bipush 10, 2) := by decide +kernel
theorem dX13_readExpert_28 : decode cX13_readExpert 28 = .ok (.invokevirtual 207, 3) := by decide +kernel
theorem dX13_readExpert_31 : decode cX13_readExpert 31 = .ok (.aload_n 0, 1) := by decide +kernel
theorem dX13_readExpert_32 : decode cX13_readExpert 32 = .ok (.getfield 95, 3) := by decide +kernel
theorem dX13_readExpert_35 : decode cX13_readExpert 35 = .ok (.bipush 96, 2) := by decide +kernel
theorem dX13_readExpert_37 : decode cX13_readExpert 37 = .ok (.iload_n 1, 1) := by decide +kernel
theorem dX13_readExpert_38 : decode cX13_readExpert 38 = .ok (.iadd, 1) := by decide +kernel
theorem dX13_readExpert_39 : decode cX13_readExpert 39 = .ok (.aload_n 0, 1) := by decide +kernel
theorem dX13_readExpert_40 : decode cX13_readExpert 40 = .ok (.iconst 4, 1) := by decide +kernel
theorem dX13_readExpert_41 : decode cX13_readExpert 41 = .ok (.invokevirtual 280, 3) := by decide +kernel
theorem dX13_readExpert_44 : decode cX13_readExpert 44 = .ok (.iastore, 1) := by decide +kernel
theorem dX13_readExpert_45 : decode cX13_readExpert 45 = .ok (.aload_n 0, 1) := by decide +kernel
theorem dX13_readExpert_46 : decode cX13_readExpert 46 = .ok (.getfield 95, 3) := by decide +kernel
theorem dX13_readExpert_49 : decode cX13_readExpert 49 = .ok (.bipush 72, 2) := by decide +kernel
theorem dX13_readExpert_51 : decode cX13_readExpert 51 = .ok (.dup2, 1) := by decide +kernel
theorem dX13_readExpert_52 : decode cX13_readExpert 52 = .ok (.iaload, 1) := by decide +kernel
theorem dX13_readExpert_53 : decode cX13_readExpert 53 = .ok (.iconst 1, 1) := by decide +kernel
theorem dX13_readExpert_54 : decode cX13_readExpert 54 = .ok (.iadd, 1) := by decide +kernel
theorem dX13_readExpert_55 : decode cX13_readExpert 55 = .ok (.iastore, 1) := by decide +kernel
theorem dX13_readExpert_56 : decode cX13_readExpert 56 = .ok (.return_, 1) := by decide +kernel
theorem dX13_readLaw_0 : decode cX13_readLaw 0 = .ok (.aload_n 0, 1) := by decide +kernel
theorem dX13_readLaw_1 : decode cX13_readLaw 1 = .ok (.bipush 11, 2) := by decide +kernel
theorem dX13_readLaw_3 : decode cX13_readLaw 3 = .ok (.iconst 2, 1) := by decide +kernel
theorem dX13_readLaw_4 : decode cX13_readLaw 4 = .ok (.invokevirtual 214, 3) := by decide +kernel
theorem dX13_readLaw_7 : decode cX13_readLaw 7 = .ok (.istore_n 1, 1) := by decide +kernel
theorem dX13_readLaw_8 : decode cX13_readLaw 8 = .ok (.iload_n 1, 1) := by decide +kernel
theorem dX13_readLaw_9 : decode cX13_readLaw 9 = .ok (.ifCond .ge 11, 3) := by decide +kernel
theorem dX13_readLaw_12 : decode cX13_readLaw 12 = .ok (.aload_n 0, 1) := by decide +kernel
theorem dX13_readLaw_13 : decode cX13_readLaw 13 = .ok (.iconst 1, 1) := by decide +kernel
theorem dX13_readLaw_14 : decode cX13_readLaw 14 = .ok (.invokevirtual 198, 3) := by decide +kernel
theorem dX13_readLaw_17 : decode cX13_readLaw 17 = .ok (.goto 20, 3) := by decide +kernel
theorem dX13_readLaw_20 : decode cX13_readLaw 20 = .ok (.aload_n 0, 1) := by decide +kernel
theorem dX13_readLaw_21 : decode cX13_readLaw 21 = .ok (.getfield 95, 3) := by decide +kernel
theorem dX13_readLaw_24 : decode cX13_readLaw 24 = .ok (.bipush 74, 2) := by decide +kernel
theorem dX13_readLaw_26 : decode cX13_readLaw 26 = .ok (.iload_n 1, 1) := by decide +kernel
theorem dX13_readLaw_27 : decode cX13_readLaw 27 = .ok (.iadd, 1) := by decide +kernel
theorem dX13_readLaw_28 : decode cX13_readLaw 28 = .ok (.iaload, 1) := by decide +kernel
theorem dX13_readLaw_29 : decode cX13_readLaw 29 = .ok (.ifCond .lt 8, 3) := by decide +kernel
theorem dX13_readLaw_32 : decode cX13_readLaw 32 = .ok (.aload_n 0, 1) := by decide +kernel
theorem dX13_readLaw_33 : decode cX13_readLaw 33 = .ok (.iconst 3, 1) := by decide +kernel
theorem dX13_readLaw_34 : decode cX13_readLaw 34 = .ok (.invokevirtual 198, 3) := by decide +kernel
theorem dX13_readLaw_37 : decode cX13_readLaw 37 = .ok (.aload_n 0, 1) := by decide +kernel
theorem dX13_readLaw_38 : decode cX13_readLaw 38 = .ok (.getfield 192, 3) := by decide +kernel
theorem dX13_readLaw_41 : decode cX13_readLaw 41 = .ok (.ifCond .le 4, 3) := by decide +kernel
theorem dX13_readLaw_44 : decode cX13_readLaw 44 = .ok (.return_, 1) := by decide +kernel
theorem dX13_readLaw_45 : decode cX13_readLaw 45 = .ok (.aload_n 0, 1) := by decide +kernel
theorem dX13_readLaw_46 : decode cX13_readLaw 46 = .ok (.dup, 1) := by decide +kernel
theorem dX13_readLaw_47 : decode cX13_readLaw 47 = .ok (.getfield 189, 3) := by decide +kernel
theorem dX13_readLaw_50 : decode cX13_readLaw 50 = .ok (.iconst 1, 1) := by decide +kernel
theorem dX13_readLaw_51 : decode cX13_readLaw 51 = .ok (.iadd, 1) := by decide +kernel
theorem dX13_readLaw_52 : decode cX13_readLaw 52 = .ok (.putfield 189, 3) := by decide +kernel
theorem dX13_readLaw_55 : decode cX13_readLaw 55 = .ok (.aload_n 0, 1) := by decide +kernel
theorem dX13_readLaw_56 : decode cX13_readLaw 56 = .ok (.getfield 95, 3) := by decide +kernel
theorem dX13_readLaw_59 : decode cX13_readLaw 59 = .ok (.bipush 74, 2) := by decide +kernel
theorem dX13_readLaw_61 : decode cX13_readLaw 61 = .ok (.iload_n 1, 1) := by decide +kernel
theorem dX13_readLaw_62 : decode cX13_readLaw 62 = .ok (.iadd, 1) := by decide +kernel
theorem dX13_readLaw_63 : decode cX13_readLaw 63 = .ok (.aload_n 0, 1) := by decide +kernel
theorem dX13_readLaw_64 : decode cX13_readLaw 64 = .ok (.getfield 242, 3) := by decide +kernel
theorem dX13_readLaw_67 : decode cX13_readLaw 67 = .ok (.iastore, 1) := by decide +kernel
theorem dX13_readLaw_68 : decode cX13_readLaw 68 = .ok (.aload_n 0, 1) := by decide +kernel
theorem dX13_readLaw_69 : decode cX13_readLaw 69 = .ok (.iload_n 1, 1) := by decide +kernel
theorem dX13_readLaw_70 : decode cX13_readLaw 70 = .ok (.ifCond .ne 8, 3) := by decide +kernel
theorem dX13_readLaw_73 : decode cX13_readLaw 73 = .ok (.bipush 7, 2) := by decide +kernel
theorem dX13_readLaw_75 : decode cX13_readLaw 75 = .ok (.goto 5, 3) := by decide +kernel
theorem dX13_readLaw_78 : decode cX13_readLaw 78 = .ok (.bipush 11, 2) := by decide +kernel
theorem dX13_readLaw_80 : decode cX13_readLaw 80 = .ok (.putfield 289, 3) := by decide +kernel
theorem dX13_readLaw_83 : decode cX13_readLaw 83 = .ok (.aload_n 0, 1) := by decide +kernel
theorem dX13_readLaw_84 : decode cX13_readLaw 84 = .ok (.iconst 0, 1) := by decide +kernel
theorem dX13_readLaw_85 : decode cX13_readLaw 85 = .ok (.invokevirtual 292, 3) := by decide +kernel
theorem dX13_readLaw_88 : decode cX13_readLaw 88 = .ok (.aload_n 0, 1) := by decide +kernel
theorem dX13_readLaw_89 : decode cX13_readLaw 89 = .ok (.iconst 0, 1) := by decide +kernel
theorem dX13_readLaw_90 : decode cX13_readLaw 90 = .ok (.iconst 0, 1) := by decide +kernel
theorem dX13_readLaw_91 : decode cX13_readLaw 91 = .ok (.invokevirtual 295, 3) := by decide +kernel
theorem dX13_readLaw_94 : decode cX13_readLaw 94 = .ok (.return_, 1) := by decide +kernel
theorem dX13_nights_0 : decode cX13_nights 0 = .ok (.aload_n 0, 1) := by decide +kernel
theorem dX13_nights_1 : decode cX13_nights 1 = .ok (.iconst 0, 1) := by decide +kernel
theorem dX13_nights_2 : decode cX13_nights 2 = .ok (.putfield 1, 3) := by decide +kernel
theorem dX13_nights_5 : decode cX13_nights 5 = .ok (.aload_n 0, 1) := by decide +kernel
theorem dX13_nights_6 : decode cX13_nights 6 = .ok (.invokevirtual 239, 3) := by decide +kernel
theorem dX13_nights_9 : decode cX13_nights 9 = .ok (.iconst 0, 1) := by decide +kernel
theorem dX13_nights_10 : decode cX13_nights 10 = .ok (.istore_n 1, 1) := by decide +kernel
theorem dX13_nights_11 : decode cX13_nights 11 = .ok (.aload_n 0, 1) := by decide +kernel
theorem dX13_nights_12 : decode cX13_nights 12 = .ok (.getfield 192, 3) := by decide +kernel
theorem dX13_nights_15 : decode cX13_nights 15 = .ok (.ifCond .ne 94, 3) := by decide +kernel
theorem dX13_nights_18 : decode cX13_nights 18 = .ok (.aload_n 0, 1) := by decide +kernel
theorem dX13_nights_19 : decode cX13_nights 19 = .ok (.getfield 24, 3) := by decide +kernel
theorem dX13_nights_22 : decode cX13_nights 22 = .ok (.aload_n 0, 1) := by decide +kernel
theorem dX13_nights_23 : decode cX13_nights 23 = .ok (.getfield 189, 3) := by decide +kernel
theorem dX13_nights_26 : decode cX13_nights 26 = .ok (.iaload, 1) := by decide +kernel
theorem dX13_nights_27 : decode cX13_nights 27 = .ok (.ifCond .eq 82, 3) := by decide +kernel
theorem dX13_nights_30 : decode cX13_nights 30 = .ok (.aload_n 0, 1) := by decide +kernel
theorem dX13_nights_31 : decode cX13_nights 31 = .ok (.bipush 13, 2) := by decide +kernel
theorem dX13_nights_33 : decode cX13_nights 33 = .ok (.iconst 5, 1) := by decide +kernel
theorem dX13_nights_34 : decode cX13_nights 34 = .ok (.invokevirtual 214, 3) := by decide +kernel
theorem dX13_nights_37 : decode cX13_nights 37 = .ok (.istore_n 2, 1) := by decide +kernel
theorem dX13_nights_38 : decode cX13_nights 38 = .ok (.iload_n 2, 1) := by decide +kernel
theorem dX13_nights_39 : decode cX13_nights 39 = .ok (.ifCond .ge 11, 3) := by decide +kernel
theorem dX13_nights_42 : decode cX13_nights 42 = .ok (.aload_n 0, 1) := by decide +kernel
theorem dX13_nights_43 : decode cX13_nights 43 = .ok (.iconst 1, 1) := by decide +kernel
theorem dX13_nights_44 : decode cX13_nights 44 = .ok (.invokevirtual 198, 3) := by decide +kernel
theorem dX13_nights_47 : decode cX13_nights 47 = .ok (.goto 53, 3) := by decide +kernel
theorem dX13_nights_50 : decode cX13_nights 50 = .ok (.iload_n 1, 1) := by decide +kernel
theorem dX13_nights_51 : decode cX13_nights 51 = .ok (.bipush 30, 2) := by decide +kernel
theorem dX13_nights_53 : decode cX13_nights 53 = .ok (.if_icmp .ne 11, 3) := by decide +kernel
theorem dX13_nights_56 : decode cX13_nights 56 = .ok (.aload_n 0, 1) := by decide +kernel
theorem dX13_nights_57 : decode cX13_nights 57 = .ok (.iconst 5, 1) := by decide +kernel
theorem dX13_nights_58 : decode cX13_nights 58 = .ok (.invokevirtual 198, 3) := by decide +kernel
theorem dX13_nights_61 : decode cX13_nights 61 = .ok (.goto 39, 3) := by decide +kernel
theorem dX13_nights_64 : decode cX13_nights 64 = .ok (.aload_n 0, 1) := by decide +kernel
theorem dX13_nights_65 : decode cX13_nights 65 = .ok (.dup, 1) := by decide +kernel
theorem dX13_nights_66 : decode cX13_nights 66 = .ok (.getfield 189, 3) := by decide +kernel
theorem dX13_nights_69 : decode cX13_nights 69 = .ok (.iconst 1, 1) := by decide +kernel
theorem dX13_nights_70 : decode cX13_nights 70 = .ok (.iadd, 1) := by decide +kernel
theorem dX13_nights_71 : decode cX13_nights 71 = .ok (.putfield 189, 3) := by decide +kernel
theorem dX13_nights_74 : decode cX13_nights 74 = .ok (.aload_n 0, 1) := by decide +kernel
theorem dX13_nights_75 : decode cX13_nights 75 = .ok (.getfield 116, 3) := by decide +kernel
theorem dX13_nights_78 : decode cX13_nights 78 = .ok (.bipush 125, 2) := by decide +kernel
theorem dX13_nights_80 : decode cX13_nights 80 = .ok (.iconst 4, 1) := by decide +kernel
theorem dX13_nights_81 : decode cX13_nights 81 = .ok (.iload_n 1, 1) := by decide +kernel
theorem dX13_nights_82 : decode cX13_nights 82 = .ok (.imul, 1) := by decide +kernel
theorem dX13_nights_83 : decode cX13_nights 83 = .ok (.iadd, 1) := by decide +kernel
theorem dX13_nights_84 : decode cX13_nights 84 = .ok (.iload_n 2, 1) := by decide +kernel
theorem dX13_nights_85 : decode cX13_nights 85 = .ok (.iastore, 1) := by decide +kernel
theorem dX13_nights_86 : decode cX13_nights 86 = .ok (.aload_n 0, 1) := by decide +kernel
theorem dX13_nights_87 : decode cX13_nights 87 = .ok (.iload_n 2, 1) := by decide +kernel
theorem dX13_nights_88 : decode cX13_nights 88 = .ok (.bipush 126, 2) := by decide +kernel
theorem dX13_nights_90 : decode cX13_nights 90 = .ok (.iconst 4, 1) := by decide +kernel
theorem dX13_nights_91 : decode cX13_nights 91 = .ok (.iload_n 1, 1) := by decide +kernel
theorem dX13_nights_92 : decode cX13_nights 92 = .ok (.imul, 1) := by decide +kernel
theorem dX13_nights_93 : decode cX13_nights 93 = .ok (.iadd, 1) := by decide +kernel
theorem dX13_nights_94 : decode cX13_nights 94 = .ok (.invokevirtual 299, 3) := by decide +kernel
theorem dX13_nights_97 : decode cX13_nights 97 = .ok (.iinc 1 1, 3) := by decide +kernel
theorem dX13_nights_100 : decode cX13_nights 100 = .ok (.aload_n 0, 1) := by decide +kernel
theorem dX13_nights_101 : decode cX13_nights 101 = .ok (.bipush 59, 2) := by decide +kernel
theorem dX13_nights_103 : decode cX13_nights 103 = .ok (.invokevirtual 248, 3) := by decide +kernel
theorem dX13_nights_106 : decode cX13_nights 106 = .ok (.goto (-95), 3) := by decide +kernel
theorem dX13_nights_109 : decode cX13_nights 109 = .ok (.aload_n 0, 1) := by decide +kernel
theorem dX13_nights_110 : decode cX13_nights 110 = .ok (.getfield 192, 3) := by decide +kernel
theorem dX13_nights_113 : decode cX13_nights 113 = .ok (.ifCond .le 8, 3) := by decide +kernel
theorem dX13_nights_116 : decode cX13_nights 116 = .ok (.aload_n 0, 1) := by decide +kernel
theorem dX13_nights_117 : decode cX13_nights 117 = .ok (.getfield 192, 3) := by decide +kernel
theorem dX13_nights_120 : decode cX13_nights 120 = .ok (.ireturn, 1) := by decide +kernel
theorem dX13_nights_121 : decode cX13_nights 121 = .ok (.aload_n 0, 1) := by decide +kernel
theorem dX13_nights_122 : decode cX13_nights 122 = .ok (.getfield 116, 3) := by decide +kernel
theorem dX13_nights_125 : decode cX13_nights 125 = .ok (.iconst 0, 1) := by decide +kernel
theorem dX13_nights_126 : decode cX13_nights 126 = .ok (.iload_n 1, 1) := by decide +kernel
theorem dX13_nights_127 : decode cX13_nights 127 = .ok (.iastore, 1) := by decide +kernel
theorem dX13_nights_128 : decode cX13_nights 128 = .ok (.iconst 0, 1) := by decide +kernel
theorem dX13_nights_129 : decode cX13_nights 129 = .ok (.istore_n 2, 1) := by decide +kernel
theorem dX13_nights_130 : decode cX13_nights 130 = .ok (.iload_n 2, 1) := by decide +kernel
theorem dX13_nights_131 : decode cX13_nights 131 = .ok (.iconst 4, 1) := by decide +kernel
theorem dX13_nights_132 : decode cX13_nights 132 = .ok (.iload_n 1, 1) := by decide +kernel
theorem dX13_nights_133 : decode cX13_nights 133 = .ok (.imul, 1) := by decide +kernel
theorem dX13_nights_134 : decode cX13_nights 134 = .ok (.if_icmp .ge 26, 3) := by decide +kernel
theorem dX13_nights_137 : decode cX13_nights 137 = .ok (.aload_n 0, 1) := by decide +kernel
theorem dX13_nights_138 : decode cX13_nights 138 = .ok (.getfield 116, 3) := by decide +kernel
theorem dX13_nights_141 : decode cX13_nights 141 = .ok (.iconst 1, 1) := by decide +kernel
theorem dX13_nights_142 : decode cX13_nights 142 = .ok (.iload_n 2, 1) := by decide +kernel
theorem dX13_nights_143 : decode cX13_nights 143 = .ok (.iadd, 1) := by decide +kernel
theorem dX13_nights_144 : decode cX13_nights 144 = .ok (.aload_n 0, 1) := by decide +kernel
theorem dX13_nights_145 : decode cX13_nights 145 = .ok (.getfield 116, 3) := by decide +kernel
theorem dX13_nights_148 : decode cX13_nights 148 = .ok (.bipush 125, 2) := by decide +kernel
theorem dX13_nights_150 : decode cX13_nights 150 = .ok (.iload_n 2, 1) := by decide +kernel
theorem dX13_nights_151 : decode cX13_nights 151 = .ok (.iadd, 1) := by decide +kernel
theorem dX13_nights_152 : decode cX13_nights 152 = .ok (.iaload, 1) := by decide +kernel
theorem dX13_nights_153 : decode cX13_nights 153 = .ok (.iastore, 1) := by decide +kernel
theorem dX13_nights_154 : decode cX13_nights 154 = .ok (.iinc 2 1, 3) := by decide +kernel
theorem dX13_nights_157 : decode cX13_nights 157 = .ok (.goto (-27), 3) := by decide +kernel
theorem dX13_nights_160 : decode cX13_nights 160 = .ok (.iconst 0, 1) := by decide +kernel
theorem dX13_nights_161 : decode cX13_nights 161 = .ok (.ireturn, 1) := by decide +kernel
theorem dX13_readNight_0 : decode cX13_readNight 0 = .ok (.iload_n 1, 1) := by decide +kernel
theorem dX13_readNight_1 : decode cX13_readNight 1 = .ok (.iconst 3, 1) := by decide +kernel
theorem dX13_readNight_2 : decode cX13_readNight 2 = .ok (.if_icmp .ne 19, 3) := by decide +kernel
theorem dX13_readNight_5 : decode cX13_readNight 5 = .ok (.aload_n 0, 1) := by decide +kernel
theorem dX13_readNight_6 : decode cX13_readNight 6 = .ok (.getfield 116, 3) := by decide +kernel
theorem dX13_readNight_9 : decode cX13_readNight 9 = .ok (.iload_n 2, 1) := by decide +kernel
theorem dX13_readNight_10 : decode cX13_readNight 10 = .ok (.aload_n 0, 1) := by decide +kernel
theorem dX13_readNight_11 : decode cX13_readNight 11 = .ok (.iconst 0, 1) := by decide +kernel
theorem dX13_readNight_12 : decode cX13_readNight 12 = .ok (.bipush 23, 2) := by decide +kernel
theorem dX13_readNight_14 : decode cX13_readNight 14 = .ok (.invokevirtual 210, 3) := by decide +kernel
theorem dX13_readNight_17 : decode cX13_readNight 17 = .ok (.iastore, 1) := by decide +kernel
theorem dX13_readNight_18 : decode cX13_readNight 18 = .ok (.goto 59, 3) := by decide +kernel
theorem dX13_readNight_21 : decode cX13_readNight 21 = .ok (.iload_n 1, 1) := by decide +kernel
theorem dX13_readNight_22 : decode cX13_readNight 22 = .ok (.iconst 3, 1) := by decide +kernel
theorem dX13_readNight_23 : decode cX13_readNight 23 = .ok (.if_icmp .ge 54, 3) := by decide +kernel
theorem dX13_readNight_26 : decode cX13_readNight 26 = .ok (.aload_n 0, 1) := by decide +kernel
theorem dX13_readNight_27 : decode cX13_readNight 27 = .ok (.getfield 116, 3) := by decide +kernel
theorem dX13_readNight_30 : decode cX13_readNight 30 = .ok (.iload_n 2, 1) := by decide +kernel
theorem dX13_readNight_31 : decode cX13_readNight 31 = .ok (.aload_n 0, 1) := by decide +kernel
theorem dX13_readNight_32 : decode cX13_readNight 32 = .ok (.iconst 0, 1) := by decide +kernel
theorem dX13_readNight_33 : decode cX13_readNight 33 = .ok (.bipush 20, 2) := by decide +kernel
theorem dX13_readNight_35 : decode cX13_readNight 35 = .ok (.invokevirtual 286, 3) := by decide +kernel
theorem dX13_readNight_38 : decode cX13_readNight 38 = .ok (.iastore, 1) := by decide +kernel
theorem dX13_readNight_39 : decode cX13_readNight 39 = .ok (.aload_n 0, 1) := by decide +kernel
theorem dX13_readNight_40 : decode cX13_readNight 40 = .ok (.getfield 116, 3) := by decide +kernel
theorem dX13_readNight_43 : decode cX13_readNight 43 = .ok (.iload_n 2, 1) := by decide +kernel
theorem dX13_readNight_44 : decode cX13_readNight 44 = .ok (.iconst 1, 1) := by decide +kernel
theorem dX13_readNight_45 : decode cX13_readNight 45 = .ok (.iadd, 1) := by decide +kernel
theorem dX13_readNight_46 : decode cX13_readNight 46 = .ok (.aload_n 0, 1) := by decide +kernel
theorem dX13_readNight_47 : decode cX13_readNight 47 = .ok (.iconst 0, 1) := by decide +kernel
theorem dX13_readNight_48 : decode cX13_readNight 48 = .ok (.bipush 7, 2) := by decide +kernel
theorem dX13_readNight_50 : decode cX13_readNight 50 = .ok (.invokevirtual 210, 3) := by decide +kernel
theorem dX13_readNight_53 : decode cX13_readNight 53 = .ok (.iastore, 1) := by decide +kernel
theorem dX13_readNight_54 : decode cX13_readNight 54 = .ok (.aload_n 0, 1) := by decide +kernel
theorem dX13_readNight_55 : decode cX13_readNight 55 = .ok (.getfield 116, 3) := by decide +kernel
theorem dX13_readNight_58 : decode cX13_readNight 58 = .ok (.iload_n 2, 1) := by decide +kernel
theorem dX13_readNight_59 : decode cX13_readNight 59 = .ok (.iconst 2, 1) := by decide +kernel
theorem dX13_readNight_60 : decode cX13_readNight 60 = .ok (.iadd, 1) := by decide +kernel
theorem dX13_readNight_61 : decode cX13_readNight 61 = .ok (.iload_n 1, 1) := by decide +kernel
theorem dX13_readNight_62 : decode cX13_readNight 62 = .ok (.iconst 1, 1) := by decide +kernel
theorem dX13_readNight_63 : decode cX13_readNight 63 = .ok (.if_icmp .ne 12, 3) := by decide +kernel
theorem dX13_readNight_66 : decode cX13_readNight 66 = .ok (.aload_n 0, 1) := by decide +kernel
theorem dX13_readNight_67 : decode cX13_readNight 67 = .ok (.iconst 0, 1) := by decide +kernel
theorem dX13_readNight_68 : decode cX13_readNight 68 = .ok (.iconst 0, 1) := by decide +kernel
theorem dX13_readNight_69 : decode cX13_readNight 69 = .ok (.invokevirtual 286, 3) := by decide +kernel
theorem dX13_readNight_72 : decode cX13_readNight 72 = .ok (.goto 4, 3) := by decide +kernel
theorem dX13_readNight_75 : decode cX13_readNight 75 = .ok (.iconst 0, 1) := by decide +kernel
theorem dX13_readNight_76 : decode cX13_readNight 76 = .ok (.iastore, 1) := by decide +kernel
theorem dX13_readNight_77 : decode cX13_readNight 77 = .ok (.return_, 1) := by decide +kernel
theorem dX13_emit_0 : decode cX13_emit 0 = .ok (.aload_n 0, 1) := by decide +kernel
theorem dX13_emit_1 : decode cX13_emit 1 = .ok (.getfield 98, 3) := by decide +kernel
theorem dX13_emit_4 : decode cX13_emit 4 = .ok (.sipush 1100, 3) := by decide +kernel
theorem dX13_emit_7 : decode cX13_emit 7 = .ok (.aload_n 0, 1) := by decide +kernel
theorem dX13_emit_8 : decode cX13_emit 8 = .ok (.getfield 242, 3) := by decide +kernel
theorem dX13_emit_11 : decode cX13_emit 11 = .ok (.iadd, 1) := by decide +kernel
theorem dX13_emit_12 : decode cX13_emit 12 = .ok (.iload_n 1, 1) := by decide +kernel
theorem dX13_emit_13 : decode cX13_emit 13 = .ok (.iastore, 1) := by decide +kernel
theorem dX13_emit_14 : decode cX13_emit 14 = .ok (.aload_n 0, 1) := by decide +kernel
theorem dX13_emit_15 : decode cX13_emit 15 = .ok (.getfield 101, 3) := by decide +kernel
theorem dX13_emit_18 : decode cX13_emit 18 = .ok (.sipush 1100, 3) := by decide +kernel
theorem dX13_emit_21 : decode cX13_emit 21 = .ok (.aload_n 0, 1) := by decide +kernel
theorem dX13_emit_22 : decode cX13_emit 22 = .ok (.getfield 242, 3) := by decide +kernel
theorem dX13_emit_25 : decode cX13_emit 25 = .ok (.iadd, 1) := by decide +kernel
theorem dX13_emit_26 : decode cX13_emit 26 = .ok (.iload_n 2, 1) := by decide +kernel
theorem dX13_emit_27 : decode cX13_emit 27 = .ok (.iastore, 1) := by decide +kernel
theorem dX13_emit_28 : decode cX13_emit 28 = .ok (.aload_n 0, 1) := by decide +kernel
theorem dX13_emit_29 : decode cX13_emit 29 = .ok (.dup, 1) := by decide +kernel
theorem dX13_emit_30 : decode cX13_emit 30 = .ok (.getfield 242, 3) := by decide +kernel
theorem dX13_emit_33 : decode cX13_emit 33 = .ok (.iconst 1, 1) := by decide +kernel
theorem dX13_emit_34 : decode cX13_emit 34 = .ok (.iadd, 1) := by decide +kernel
theorem dX13_emit_35 : decode cX13_emit 35 = .ok (.putfield 242, 3) := by decide +kernel
theorem dX13_emit_38 : decode cX13_emit 38 = .ok (.return_, 1) := by decide +kernel
theorem dX13_all_0 : decode cX13_all 0 = .ok (.aload_n 0, 1) := by decide +kernel
theorem dX13_all_1 : decode cX13_all 1 = .ok (.iload_n 1, 1) := by decide +kernel
theorem dX13_all_2 : decode cX13_all 2 = .ok (.invokevirtual 302, 3) := by decide +kernel
theorem dX13_all_5 : decode cX13_all 5 = .ok (.aload_n 0, 1) := by decide +kernel
theorem dX13_all_6 : decode cX13_all 6 = .ok (.bipush 23, 2) := by decide +kernel
theorem dX13_all_8 : decode cX13_all 8 = .ok (.invokevirtual 201, 3) := by decide +kernel
theorem dX13_all_11 : decode cX13_all 11 = .ok (.ifCond .ne 12, 3) := by decide +kernel
theorem dX13_all_14 : decode cX13_all 14 = .ok (.aload_n 0, 1) := by decide +kernel
theorem dX13_all_15 : decode cX13_all 15 = .ok (.bipush 24, 2) := by decide +kernel
theorem dX13_all_17 : decode cX13_all 17 = .ok (.invokevirtual 201, 3) := by decide +kernel
theorem dX13_all_20 : decode cX13_all 20 = .ok (.ifCond .eq 44, 3) := by decide +kernel
theorem dX13_all_23 : decode cX13_all 23 = .ok (.aload_n 0, 1) := by decide +kernel
theorem dX13_all_24 : decode cX13_all 24 = .ok (.bipush 23, 2) := by decide +kernel
theorem dX13_all_26 : decode cX13_all 26 = .ok (.invokevirtual 201, 3) := by decide +kernel
theorem dX13_all_29 : decode cX13_all 29 = .ok (.istore_n 2, 1) := by decide +kernel
theorem dX13_all_30 : decode cX13_all 30 = .ok (.aload_n 0, 1) := by decide +kernel
theorem dX13_all_31 : decode cX13_all 31 = .ok (.dup, 1) := by decide +kernel
theorem dX13_all_32 : decode cX13_all 32 = .ok (.getfield 189, 3) := by decide +kernel
theorem dX13_all_35 : decode cX13_all 35 = .ok (.iconst 1, 1) := by decide +kernel
theorem dX13_all_36 : decode cX13_all 36 = .ok (.iadd, 1) := by decide +kernel
theorem dX13_all_37 : decode cX13_all 37 = .ok (.putfield 189, 3) := by decide +kernel
theorem dX13_all_40 : decode cX13_all 40 = .ok (.aload_n 0, 1) := by decide +kernel
theorem dX13_all_41 : decode cX13_all 41 = .ok (.iload_n 1, 1) := by decide +kernel
theorem dX13_all_42 : decode cX13_all 42 = .ok (.invokevirtual 302, 3) := by decide +kernel
theorem dX13_all_45 : decode cX13_all 45 = .ok (.aload_n 0, 1) := by decide +kernel
theorem dX13_all_46 : decode cX13_all 46 = .ok (.iload_n 2, 1) := by decide +kernel
theorem dX13_all_47 : decode cX13_all 47 = .ok (.ifCond .eq 8, 3) := by decide +kernel
theorem dX13_all_50 : decode cX13_all 50 = .ok (.bipush 9, 2) := by decide +kernel
theorem dX13_all_52 : decode cX13_all 52 = .ok (.goto 5, 3) := by decide +kernel
theorem dX13_all_55 : decode cX13_all 55 = .ok (.bipush 10, 2) := by decide +kernel
theorem dX13_all_57 : decode cX13_all 57 = .ok (.iconst 0, 1) := by decide +kernel
theorem dX13_all_58 : decode cX13_all 58 = .ok (.invokevirtual 295, 3) := by decide +kernel
theorem dX13_all_61 : decode cX13_all 61 = .ok (.goto (-56), 3) := by decide +kernel
theorem dX13_all_64 : decode cX13_all 64 = .ok (.return_, 1) := by decide +kernel
theorem dX13_test_0 : decode cX13_test 0 = .ok (.aload_n 0, 1) := by decide +kernel
theorem dX13_test_1 : decode cX13_test 1 = .ok (.iload_n 1, 1) := by decide +kernel
theorem dX13_test_2 : decode cX13_test 2 = .ok (.invokevirtual 305, 3) := by decide +kernel
theorem dX13_test_5 : decode cX13_test 5 = .ok (.aload_n 0, 1) := by decide +kernel
theorem dX13_test_6 : decode cX13_test 6 = .ok (.bipush 60, 2) := by decide +kernel
theorem dX13_test_8 : decode cX13_test 8 = .ok (.invokevirtual 195, 3) := by decide +kernel
theorem dX13_test_11 : decode cX13_test 11 = .ok (.istore_n 2, 1) := by decide +kernel
theorem dX13_test_12 : decode cX13_test 12 = .ok (.aload_n 0, 1) := by decide +kernel
theorem dX13_test_13 : decode cX13_test 13 = .ok (.bipush 60, 2) := by decide +kernel
theorem dX13_test_15 : decode cX13_test 15 = .ok (.invokevirtual 308, 3) := by decide +kernel
theorem dX13_test_18 : decode cX13_test 18 = .ok (.ifCond .ne 12, 3) := by decide +kernel
theorem dX13_test_21 : decode cX13_test 21 = .ok (.aload_n 0, 1) := by decide +kernel
theorem dX13_test_22 : decode cX13_test 22 = .ok (.bipush 61, 2) := by decide +kernel
theorem dX13_test_24 : decode cX13_test 24 = .ok (.invokevirtual 308, 3) := by decide +kernel
theorem dX13_test_27 : decode cX13_test 27 = .ok (.ifCond .eq 24, 3) := by decide +kernel
theorem dX13_test_30 : decode cX13_test 30 = .ok (.aload_n 0, 1) := by decide +kernel
theorem dX13_test_31 : decode cX13_test 31 = .ok (.iload_n 1, 1) := by decide +kernel
theorem dX13_test_32 : decode cX13_test 32 = .ok (.invokevirtual 305, 3) := by decide +kernel
theorem dX13_test_35 : decode cX13_test 35 = .ok (.aload_n 0, 1) := by decide +kernel
theorem dX13_test_36 : decode cX13_test 36 = .ok (.iload_n 2, 1) := by decide +kernel
theorem dX13_test_37 : decode cX13_test 37 = .ok (.ifCond .eq 8, 3) := by decide +kernel
theorem dX13_test_40 : decode cX13_test 40 = .ok (.bipush 7, 2) := by decide +kernel
theorem dX13_test_42 : decode cX13_test 42 = .ok (.goto 5, 3) := by decide +kernel
theorem dX13_test_45 : decode cX13_test 45 = .ok (.bipush 8, 2) := by decide +kernel
theorem dX13_test_47 : decode cX13_test 47 = .ok (.iconst 0, 1) := by decide +kernel
theorem dX13_test_48 : decode cX13_test 48 = .ok (.invokevirtual 295, 3) := by decide +kernel
theorem dX13_test_51 : decode cX13_test 51 = .ok (.return_, 1) := by decide +kernel
theorem dX13_sums_0 : decode cX13_sums 0 = .ok (.aload_n 0, 1) := by decide +kernel
theorem dX13_sums_1 : decode cX13_sums 1 = .ok (.iload_n 1, 1) := by decide +kernel
theorem dX13_sums_2 : decode cX13_sums 2 = .ok (.invokevirtual 311, 3) := by decide +kernel
theorem dX13_sums_5 : decode cX13_sums 5 = .ok (.aload_n 0, 1) := by decide +kernel
theorem dX13_sums_6 : decode cX13_sums 6 = .ok (.bipush 43, 2) := by decide +kernel
theorem dX13_sums_8 : decode cX13_sums 8 = .ok (.invokevirtual 195, 3) := by decide +kernel
theorem dX13_sums_11 : decode cX13_sums 11 = .ok (.ifCond .ne 12, 3) := by decide +kernel
theorem dX13_sums_14 : decode cX13_sums 14 = .ok (.aload_n 0, 1) := by decide +kernel
theorem dX13_sums_15 : decode cX13_sums 15 = .ok (.bipush 45, 2) := by decide +kernel
theorem dX13_sums_17 : decode cX13_sums 17 = .ok (.invokevirtual 195, 3) := by decide +kernel
theorem dX13_sums_20 : decode cX13_sums 20 = .ok (.ifCond .eq 42, 3) := by decide +kernel
theorem dX13_sums_23 : decode cX13_sums 23 = .ok (.aload_n 0, 1) := by decide +kernel
theorem dX13_sums_24 : decode cX13_sums 24 = .ok (.bipush 43, 2) := by decide +kernel
theorem dX13_sums_26 : decode cX13_sums 26 = .ok (.invokevirtual 195, 3) := by decide +kernel
theorem dX13_sums_29 : decode cX13_sums 29 = .ok (.istore_n 2, 1) := by decide +kernel
theorem dX13_sums_30 : decode cX13_sums 30 = .ok (.aload_n 0, 1) := by decide +kernel
theorem dX13_sums_31 : decode cX13_sums 31 = .ok (.dup, 1) := by decide +kernel
theorem dX13_sums_32 : decode cX13_sums 32 = .ok (.getfield 189, 3) := by decide +kernel
theorem dX13_sums_35 : decode cX13_sums 35 = .ok (.iconst 1, 1) := by decide +kernel
theorem dX13_sums_36 : decode cX13_sums 36 = .ok (.iadd, 1) := by decide +kernel
theorem dX13_sums_37 : decode cX13_sums 37 = .ok (.putfield 189, 3) := by decide +kernel
theorem dX13_sums_40 : decode cX13_sums 40 = .ok (.aload_n 0, 1) := by decide +kernel
theorem dX13_sums_41 : decode cX13_sums 41 = .ok (.iload_n 1, 1) := by decide +kernel
theorem dX13_sums_42 : decode cX13_sums 42 = .ok (.invokevirtual 311, 3) := by decide +kernel
theorem dX13_sums_45 : decode cX13_sums 45 = .ok (.aload_n 0, 1) := by decide +kernel
theorem dX13_sums_46 : decode cX13_sums 46 = .ok (.iload_n 2, 1) := by decide +kernel
theorem dX13_sums_47 : decode cX13_sums 47 = .ok (.ifCond .eq 7, 3) := by decide +kernel
theorem dX13_sums_50 : decode cX13_sums 50 = .ok (.iconst 4, 1) := by decide +kernel
theorem dX13_sums_51 : decode cX13_sums 51 = .ok (.goto 4, 3) := by decide +kernel
theorem dX13_sums_54 : decode cX13_sums 54 = .ok (.iconst 5, 1) := by decide +kernel
theorem dX13_sums_55 : decode cX13_sums 55 = .ok (.iconst 0, 1) := by decide +kernel
theorem dX13_sums_56 : decode cX13_sums 56 = .ok (.invokevirtual 295, 3) := by decide +kernel
theorem dX13_sums_59 : decode cX13_sums 59 = .ok (.goto (-54), 3) := by decide +kernel
theorem dX13_sums_62 : decode cX13_sums 62 = .ok (.return_, 1) := by decide +kernel
theorem dX13_products_0 : decode cX13_products 0 = .ok (.aload_n 0, 1) := by decide +kernel
theorem dX13_products_1 : decode cX13_products 1 = .ok (.iload_n 1, 1) := by decide +kernel
theorem dX13_products_2 : decode cX13_products 2 = .ok (.invokevirtual 314, 3) := by decide +kernel
theorem dX13_products_5 : decode cX13_products 5 = .ok (.aload_n 0, 1) := by decide +kernel
theorem dX13_products_6 : decode cX13_products 6 = .ok (.bipush 42, 2) := by decide +kernel
theorem dX13_products_8 : decode cX13_products 8 = .ok (.invokevirtual 308, 3) := by decide +kernel
theorem dX13_products_11 : decode cX13_products 11 = .ok (.ifCond .eq 18, 3) := by decide +kernel
theorem dX13_products_14 : decode cX13_products 14 = .ok (.aload_n 0, 1) := by decide +kernel
theorem dX13_products_15 : decode cX13_products 15 = .ok (.iload_n 1, 1) := by decide +kernel
theorem dX13_products_16 : decode cX13_products 16 = .ok (.invokevirtual 314, 3) := by decide +kernel
theorem dX13_products_19 : decode cX13_products 19 = .ok (.aload_n 0, 1) := by decide +kernel
theorem dX13_products_20 : decode cX13_products 20 = .ok (.bipush 6, 2) := by decide +kernel
theorem dX13_products_22 : decode cX13_products 22 = .ok (.iconst 0, 1) := by decide +kernel
theorem dX13_products_23 : decode cX13_products 23 = .ok (.invokevirtual 295, 3) := by decide +kernel
theorem dX13_products_26 : decode cX13_products 26 = .ok (.goto (-21), 3) := by decide +kernel
theorem dX13_products_29 : decode cX13_products 29 = .ok (.return_, 1) := by decide +kernel
theorem dX13_takePart_0 : decode cX13_takePart 0 = .ok (.aload_n 0, 1) := by decide +kernel
theorem dX13_takePart_1 : decode cX13_takePart 1 = .ok (.getfield 192, 3) := by decide +kernel
theorem dX13_takePart_4 : decode cX13_takePart 4 = .ok (.ifCond .le 4, 3) := by decide +kernel
theorem dX13_takePart_7 : decode cX13_takePart 7 = .ok (.return_, 1) := by decide +kernel
theorem dX13_takePart_8 : decode cX13_takePart 8 = .ok (.aload_n 0, 1) := by decide +kernel
theorem dX13_takePart_9 : decode cX13_takePart 9 = .ok (.getfield 24, 3) := by decide +kernel
theorem dX13_takePart_12 : decode cX13_takePart 12 = .ok (.aload_n 0, 1) := by decide +kernel
theorem dX13_takePart_13 : decode cX13_takePart 13 = .ok (.getfield 189, 3) := by decide +kernel
theorem dX13_takePart_16 : decode cX13_takePart 16 = .ok (.iaload, 1) := by decide +kernel
theorem dX13_takePart_17 : decode cX13_takePart 17 = .ok (.iconst 2, 1) := by decide +kernel
theorem dX13_takePart_18 : decode cX13_takePart 18 = .ok (.if_icmp .ne 7, 3) := by decide +kernel
theorem dX13_takePart_21 : decode cX13_takePart 21 = .ok (.iconst 1, 1) := by decide +kernel
theorem dX13_takePart_22 : decode cX13_takePart 22 = .ok (.goto 4, 3) := by decide +kernel
theorem dX13_takePart_25 : decode cX13_takePart 25 = .ok (.iconst 0, 1) := by decide +kernel
theorem dX13_takePart_26 : decode cX13_takePart 26 = .ok (.istore_n 2, 1) := by decide +kernel
theorem dX13_takePart_27 : decode cX13_takePart 27 = .ok (.aload_n 0, 1) := by decide +kernel
theorem dX13_takePart_28 : decode cX13_takePart 28 = .ok (.bipush 25, 2) := by decide +kernel
theorem dX13_takePart_30 : decode cX13_takePart 30 = .ok (.iconst 4, 1) := by decide +kernel
theorem dX13_takePart_31 : decode cX13_takePart 31 = .ok (.invokevirtual 214, 3) := by decide +kernel
theorem dX13_takePart_34 : decode cX13_takePart 34 = .ok (.istore_n 3, 1) := by decide +kernel
theorem dX13_takePart_35 : decode cX13_takePart 35 = .ok (.iload_n 3, 1) := by decide +kernel
theorem dX13_takePart_36 : decode cX13_takePart 36 = .ok (.ifCond .lt 19, 3) := by decide +kernel
theorem dX13_takePart_39 : decode cX13_takePart 39 = .ok (.aload_n 0, 1) := by decide +kernel
theorem dX13_takePart_40 : decode cX13_takePart 40 = .ok (.getfield 289, 3) := by decide +kernel
theorem dX13_takePart_43 : decode cX13_takePart 43 = .ok (.iload_n 3, 1) := by decide +kernel
theorem dX13_takePart_44 : decode cX13_takePart 44 = .ok (.ishr, 1) := by decide +kernel
theorem dX13_takePart_45 : decode cX13_takePart 45 = .ok (.iconst 1, 1) := by decide +kernel
theorem dX13_takePart_46 : decode cX13_takePart 46 = .ok (.iand, 1) := by decide +kernel
theorem dX13_takePart_47 : decode cX13_takePart 47 = .ok (.iconst 1, 1) := by decide +kernel
theorem dX13_takePart_48 : decode cX13_takePart 48 = .ok (.if_icmp .ne 7, 3) := by decide +kernel
theorem dX13_takePart_51 : decode cX13_takePart 51 = .ok (.iload_n 3, 1) := by decide +kernel
theorem dX13_takePart_52 : decode cX13_takePart 52 = .ok (.goto 4, 3) := by decide +kernel
theorem dX13_takePart_55 : decode cX13_takePart 55 = .ok (.iconst (-1), 1) := by decide +kernel
theorem dX13_takePart_56 : decode cX13_takePart 56 = .ok (.istore_n 3, 1) := by decide +kernel
theorem dX13_takePart_57 : decode cX13_takePart 57 = .ok (.iload_n 3, 1) := by decide +kernel
theorem dX13_takePart_58 : decode cX13_takePart 58 = .ok (.ifCond .ge 33, 3) := by decide +kernel
theorem dX13_takePart_61 : decode cX13_takePart 61 = .ok (.iload_n 2, 1) := by decide +kernel
theorem dX13_takePart_62 : decode cX13_takePart 62 = .ok (.ifCond .ne 29, 3) := by decide +kernel
theorem dX13_takePart_65 : decode cX13_takePart 65 = .ok (.aload_n 0, 1) := by decide +kernel
theorem dX13_takePart_66 : decode cX13_takePart 66 = .ok (.bipush 40, 2) := by decide +kernel
theorem dX13_takePart_68 : decode cX13_takePart 68 = .ok (.invokevirtual 195, 3) := by decide +kernel
theorem dX13_takePart_71 : decode cX13_takePart 71 = .ok (.ifCond .ne 20, 3) := by decide +kernel
theorem dX13_takePart_74 : decode cX13_takePart 74 = .ok (.aload_n 0, 1) := by decide +kernel
theorem dX13_takePart_75 : decode cX13_takePart 75 = .ok (.bipush 22, 2) := by decide +kernel
theorem dX13_takePart_77 : decode cX13_takePart 77 = .ok (.invokevirtual 201, 3) := by decide +kernel
theorem dX13_takePart_80 : decode cX13_takePart 80 = .ok (.ifCond .ne 11, 3) := by decide +kernel
theorem dX13_takePart_83 : decode cX13_takePart 83 = .ok (.aload_n 0, 1) := by decide +kernel
theorem dX13_takePart_84 : decode cX13_takePart 84 = .ok (.iconst 1, 1) := by decide +kernel
theorem dX13_takePart_85 : decode cX13_takePart 85 = .ok (.invokevirtual 198, 3) := by decide +kernel
theorem dX13_takePart_88 : decode cX13_takePart 88 = .ok (.goto 13, 3) := by decide +kernel
theorem dX13_takePart_91 : decode cX13_takePart 91 = .ok (.iload_n 1, 1) := by decide +kernel
theorem dX13_takePart_92 : decode cX13_takePart 92 = .ok (.iconst 5, 1) := by decide +kernel
theorem dX13_takePart_93 : decode cX13_takePart 93 = .ok (.if_icmp .ne 8, 3) := by decide +kernel
theorem dX13_takePart_96 : decode cX13_takePart 96 = .ok (.aload_n 0, 1) := by decide +kernel
theorem dX13_takePart_97 : decode cX13_takePart 97 = .ok (.iconst 5, 1) := by decide +kernel
theorem dX13_takePart_98 : decode cX13_takePart 98 = .ok (.invokevirtual 198, 3) := by decide +kernel
theorem dX13_takePart_101 : decode cX13_takePart 101 = .ok (.aload_n 0, 1) := by decide +kernel
theorem dX13_takePart_102 : decode cX13_takePart 102 = .ok (.getfield 192, 3) := by decide +kernel
theorem dX13_takePart_105 : decode cX13_takePart 105 = .ok (.ifCond .le 4, 3) := by decide +kernel
theorem dX13_takePart_108 : decode cX13_takePart 108 = .ok (.return_, 1) := by decide +kernel
theorem dX13_takePart_109 : decode cX13_takePart 109 = .ok (.aload_n 0, 1) := by decide +kernel
theorem dX13_takePart_110 : decode cX13_takePart 110 = .ok (.bipush 22, 2) := by decide +kernel
theorem dX13_takePart_112 : decode cX13_takePart 112 = .ok (.invokevirtual 204, 3) := by decide +kernel
theorem dX13_takePart_115 : decode cX13_takePart 115 = .ok (.ifCond .eq 19, 3) := by decide +kernel
theorem dX13_takePart_118 : decode cX13_takePart 118 = .ok (.aload_n 0, 1) := by decide +kernel
theorem dX13_takePart_119 : decode cX13_takePart 119 = .ok (.iload_n 1, 1) := by decide +kernel
theorem dX13_takePart_120 : decode cX13_takePart 120 = .ok (.iconst 1, 1) := by decide +kernel
theorem dX13_takePart_121 : decode cX13_takePart 121 = .ok (.iadd, 1) := by decide +kernel
theorem dX13_takePart_122 : decode cX13_takePart 122 = .ok (.invokevirtual 314, 3) := by decide +kernel
theorem dX13_takePart_125 : decode cX13_takePart 125 = .ok (.aload_n 0, 1) := by decide +kernel
theorem dX13_takePart_126 : decode cX13_takePart 126 = .ok (.iconst 3, 1) := by decide +kernel
theorem dX13_takePart_127 : decode cX13_takePart 127 = .ok (.iconst 0, 1) := by decide +kernel
theorem dX13_takePart_128 : decode cX13_takePart 128 = .ok (.invokevirtual 295, 3) := by decide +kernel
theorem dX13_takePart_131 : decode cX13_takePart 131 = .ok (.goto 69, 3) := by decide +kernel
theorem dX13_takePart_134 : decode cX13_takePart 134 = .ok (.aload_n 0, 1) := by decide +kernel
theorem dX13_takePart_135 : decode cX13_takePart 135 = .ok (.bipush 40, 2) := by decide +kernel
theorem dX13_takePart_137 : decode cX13_takePart 137 = .ok (.invokevirtual 308, 3) := by decide +kernel
theorem dX13_takePart_140 : decode cX13_takePart 140 = .ok (.ifCond .eq 19, 3) := by decide +kernel
theorem dX13_takePart_143 : decode cX13_takePart 143 = .ok (.aload_n 0, 1) := by decide +kernel
theorem dX13_takePart_144 : decode cX13_takePart 144 = .ok (.iload_n 1, 1) := by decide +kernel
theorem dX13_takePart_145 : decode cX13_takePart 145 = .ok (.iconst 1, 1) := by decide +kernel
theorem dX13_takePart_146 : decode cX13_takePart 146 = .ok (.iadd, 1) := by decide +kernel
theorem dX13_takePart_147 : decode cX13_takePart 147 = .ok (.invokevirtual 292, 3) := by decide +kernel
theorem dX13_takePart_150 : decode cX13_takePart 150 = .ok (.aload_n 0, 1) := by decide +kernel
theorem dX13_takePart_151 : decode cX13_takePart 151 = .ok (.bipush 41, 2) := by decide +kernel
theorem dX13_takePart_153 : decode cX13_takePart 153 = .ok (.invokevirtual 248, 3) := by decide +kernel
theorem dX13_takePart_156 : decode cX13_takePart 156 = .ok (.goto 44, 3) := by decide +kernel
theorem dX13_takePart_159 : decode cX13_takePart 159 = .ok (.aload_n 0, 1) := by decide +kernel
theorem dX13_takePart_160 : decode cX13_takePart 160 = .ok (.iload_n 2, 1) := by decide +kernel
theorem dX13_takePart_161 : decode cX13_takePart 161 = .ok (.ifCond .eq 7, 3) := by decide +kernel
theorem dX13_takePart_164 : decode cX13_takePart 164 = .ok (.iconst 1, 1) := by decide +kernel
theorem dX13_takePart_165 : decode cX13_takePart 165 = .ok (.goto 4, 3) := by decide +kernel
theorem dX13_takePart_168 : decode cX13_takePart 168 = .ok (.iconst 2, 1) := by decide +kernel
theorem dX13_takePart_169 : decode cX13_takePart 169 = .ok (.iload_n 2, 1) := by decide +kernel
theorem dX13_takePart_170 : decode cX13_takePart 170 = .ok (.ifCond .eq 16, 3) := by decide +kernel
theorem dX13_takePart_173 : decode cX13_takePart 173 = .ok (.aload_n 0, 1) := by decide +kernel
theorem dX13_takePart_174 : decode cX13_takePart 174 = .ok (.getfield 30, 3) := by decide +kernel
theorem dX13_takePart_177 : decode cX13_takePart 177 = .ok (.aload_n 0, 1) := by decide +kernel
theorem dX13_takePart_178 : decode cX13_takePart 178 = .ok (.getfield 189, 3) := by decide +kernel
theorem dX13_takePart_181 : decode cX13_takePart 181 = .ok (.laload, 1) := by decide +kernel
theorem dX13_takePart_182 : decode cX13_takePart 182 = .ok (.l2i, 1) := by decide +kernel
theorem dX13_takePart_183 : decode cX13_takePart 183 = .ok (.goto 4, 3) := by decide +kernel
theorem dX13_takePart_186 : decode cX13_takePart 186 = .ok (.iload_n 3, 1) := by decide +kernel
theorem dX13_takePart_187 : decode cX13_takePart 187 = .ok (.invokevirtual 295, 3) := by decide +kernel
theorem dX13_takePart_190 : decode cX13_takePart 190 = .ok (.aload_n 0, 1) := by decide +kernel
theorem dX13_takePart_191 : decode cX13_takePart 191 = .ok (.dup, 1) := by decide +kernel
theorem dX13_takePart_192 : decode cX13_takePart 192 = .ok (.getfield 189, 3) := by decide +kernel
theorem dX13_takePart_195 : decode cX13_takePart 195 = .ok (.iconst 1, 1) := by decide +kernel
theorem dX13_takePart_196 : decode cX13_takePart 196 = .ok (.iadd, 1) := by decide +kernel
theorem dX13_takePart_197 : decode cX13_takePart 197 = .ok (.putfield 189, 3) := by decide +kernel
theorem dX13_takePart_200 : decode cX13_takePart 200 = .ok (.return_, 1) := by decide +kernel
theorem dX13_worthAt_0 : decode cX13_worthAt 0 = .ok (.iconst 0, 1) := by decide +kernel
theorem dX13_worthAt_1 : decode cX13_worthAt 1 = .ok (.istore_n 2, 1) := by decide +kernel
theorem dX13_worthAt_2 : decode cX13_worthAt 2 = .ok (.iload_n 1, 1) := by decide +kernel
theorem dX13_worthAt_3 : decode cX13_worthAt 3 = .ok (.istore_n 3, 1) := by decide +kernel
theorem dX13_worthAt_4 : decode cX13_worthAt 4 = .ok (.aload_n 0, 1) := by decide +kernel
theorem dX13_worthAt_5 : decode cX13_worthAt 5 = .ok (.getfield 98, 3) := by decide +kernel
theorem dX13_worthAt_8 : decode cX13_worthAt 8 = .ok (.iload_n 3, 1) := by decide +kernel
theorem dX13_worthAt_9 : decode cX13_worthAt 9 = .ok (.iaload, 1) := by decide +kernel
theorem dX13_worthAt_10 : decode cX13_worthAt 10 = .ok (.ifCond .eq 130, 3) := by decide +kernel
theorem dX13_worthAt_13 : decode cX13_worthAt 13 = .ok (.aload_n 0, 1) := by decide +kernel
theorem dX13_worthAt_14 : decode cX13_worthAt 14 = .ok (.getfield 98, 3) := by decide +kernel
theorem dX13_worthAt_17 : decode cX13_worthAt 17 = .ok (.iload_n 3, 1) := by decide +kernel
theorem dX13_worthAt_18 : decode cX13_worthAt 18 = .ok (.iaload, 1) := by decide +kernel
theorem dX13_worthAt_19 : decode cX13_worthAt 19 = .ok (.istore 4, 2) := by decide +kernel
theorem dX13_worthAt_21 : decode cX13_worthAt 21 = .ok (.iload 4, 2) := by decide +kernel
theorem dX13_worthAt_23 : decode cX13_worthAt 23 = .ok (.iconst 1, 1) := by decide +kernel
theorem dX13_worthAt_24 : decode cX13_worthAt 24 = .ok (.if_icmp .eq 9, 3) := by decide +kernel
theorem dX13_worthAt_27 : decode cX13_worthAt 27 = .ok (.iload 4, 2) := by decide +kernel
theorem dX13_worthAt_29 : decode cX13_worthAt 29 = .ok (.iconst 2, 1) := by decide +kernel
theorem dX13_worthAt_30 : decode cX13_worthAt 30 = .ok (.if_icmp .ne 41, 3) := by decide +kernel
theorem dX13_worthAt_33 : decode cX13_worthAt 33 = .ok (.aload_n 0, 1) := by decide +kernel
theorem dX13_worthAt_34 : decode cX13_worthAt 34 = .ok (.getfield 122, 3) := by decide +kernel
theorem dX13_worthAt_37 : decode cX13_worthAt 37 = .ok (.iload_n 2, 1) := by decide +kernel
theorem dX13_worthAt_38 : decode cX13_worthAt 38 = .ok (.iload 4, 2) := by decide +kernel
theorem dX13_worthAt_40 : decode cX13_worthAt 40 = .ok (.iconst 1, 1) := by decide +kernel
theorem dX13_worthAt_41 : decode cX13_worthAt 41 = .ok (.if_icmp .ne 12, 3) := by decide +kernel
theorem dX13_worthAt_44 : decode cX13_worthAt 44 = .ok (.aload_n 0, 1) := by decide +kernel
theorem dX13_worthAt_45 : decode cX13_worthAt 45 = .ok (.getfield 101, 3) := by decide +kernel
theorem dX13_worthAt_48 : decode cX13_worthAt 48 = .ok (.iload_n 3, 1) := by decide +kernel
theorem dX13_worthAt_49 : decode cX13_worthAt 49 = .ok (.iaload, 1) := by decide +kernel
theorem dX13_worthAt_50 : decode cX13_worthAt 50 = .ok (.goto 14, 3) := by decide +kernel
theorem dX13_worthAt_53 : decode cX13_worthAt 53 = .ok (.aload_n 0, 1) := by decide +kernel
theorem dX13_worthAt_54 : decode cX13_worthAt 54 = .ok (.getfield 119, 3) := by decide +kernel
theorem dX13_worthAt_57 : decode cX13_worthAt 57 = .ok (.aload_n 0, 1) := by decide +kernel
theorem dX13_worthAt_58 : decode cX13_worthAt 58 = .ok (.getfield 101, 3) := by decide +kernel
theorem dX13_worthAt_61 : decode cX13_worthAt 61 = .ok (.iload_n 3, 1) := by decide +kernel
theorem dX13_worthAt_62 : decode cX13_worthAt 62 = .ok (.iaload, 1) := by decide +kernel
theorem dX13_worthAt_63 : decode cX13_worthAt 63 = .ok (.iaload, 1) := by decide +kernel
theorem dX13_worthAt_64 : decode cX13_worthAt 64 = .ok (.iastore, 1) := by decide +kernel
theorem dX13_worthAt_65 : decode cX13_worthAt 65 = .ok (.iinc 2 1, 3) := by decide +kernel
theorem dX13_worthAt_68 : decode cX13_worthAt 68 = .ok (.goto 66, 3) := by decide +kernel
theorem dX13_worthAt_71 : decode cX13_worthAt 71 = .ok (.iload 4, 2) := by decide +kernel
theorem dX13_worthAt_73 : decode cX13_worthAt 73 = .ok (.iconst 3, 1) := by decide +kernel
theorem dX13_worthAt_74 : decode cX13_worthAt 74 = .ok (.if_icmp .ne 30, 3) := by decide +kernel
theorem dX13_worthAt_77 : decode cX13_worthAt 77 = .ok (.aload_n 0, 1) := by decide +kernel
theorem dX13_worthAt_78 : decode cX13_worthAt 78 = .ok (.getfield 122, 3) := by decide +kernel
theorem dX13_worthAt_81 : decode cX13_worthAt 81 = .ok (.iload_n 2, 1) := by decide +kernel
theorem dX13_worthAt_82 : decode cX13_worthAt 82 = .ok (.iconst 1, 1) := by decide +kernel
theorem dX13_worthAt_83 : decode cX13_worthAt 83 = .ok (.isub, 1) := by decide +kernel
theorem dX13_worthAt_84 : decode cX13_worthAt 84 = .ok (.aload_n 0, 1) := by decide +kernel
theorem dX13_worthAt_85 : decode cX13_worthAt 85 = .ok (.getfield 122, 3) := by decide +kernel
theorem dX13_worthAt_88 : decode cX13_worthAt 88 = .ok (.iload_n 2, 1) := by decide +kernel
theorem dX13_worthAt_89 : decode cX13_worthAt 89 = .ok (.iconst 1, 1) := by decide +kernel
theorem dX13_worthAt_90 : decode cX13_worthAt 90 = .ok (.isub, 1) := by decide +kernel
theorem dX13_worthAt_91 : decode cX13_worthAt 91 = .ok (.iaload, 1) := by decide +kernel
theorem dX13_worthAt_92 : decode cX13_worthAt 92 = .ok (.ifCond .ne 7, 3) := by decide +kernel
theorem dX13_worthAt_95 : decode cX13_worthAt 95 = .ok (.iconst 1, 1) := by decide +kernel
theorem dX13_worthAt_96 : decode cX13_worthAt 96 = .ok (.goto 4, 3) := by decide +kernel
theorem dX13_worthAt_99 : decode cX13_worthAt 99 = .ok (.iconst 0, 1) := by decide +kernel
theorem dX13_worthAt_100 : decode cX13_worthAt 100 = .ok (.iastore, 1) := by decide +kernel
theorem dX13_worthAt_101 : decode cX13_worthAt 101 = .ok (.goto 33, 3) := by decide +kernel
theorem dX13_worthAt_104 : decode cX13_worthAt 104 = .ok (.iinc 2 (-1), 3) := by decide +kernel
theorem dX13_worthAt_107 : decode cX13_worthAt 107 = .ok (.aload_n 0, 1) := by decide +kernel
theorem dX13_worthAt_108 : decode cX13_worthAt 108 = .ok (.getfield 122, 3) := by decide +kernel
theorem dX13_worthAt_111 : decode cX13_worthAt 111 = .ok (.iload_n 2, 1) := by decide +kernel
theorem dX13_worthAt_112 : decode cX13_worthAt 112 = .ok (.iconst 1, 1) := by decide +kernel
theorem dX13_worthAt_113 : decode cX13_worthAt 113 = .ok (.isub, 1) := by decide +kernel
theorem dX13_worthAt_114 : decode cX13_worthAt 114 = .ok (.iload 4, 2) := by decide +kernel
theorem dX13_worthAt_116 : decode cX13_worthAt 116 = .ok (.aload_n 0, 1) := by decide +kernel
theorem dX13_worthAt_117 : decode cX13_worthAt 117 = .ok (.getfield 122, 3) := by decide +kernel
theorem dX13_worthAt_120 : decode cX13_worthAt 120 = .ok (.iload_n 2, 1) := by decide +kernel
theorem dX13_worthAt_121 : decode cX13_worthAt 121 = .ok (.iconst 1, 1) := by decide +kernel
theorem dX13_worthAt_122 : decode cX13_worthAt 122 = .ok (.isub, 1) := by decide +kernel
theorem dX13_worthAt_123 : decode cX13_worthAt 123 = .ok (.iaload, 1) := by decide +kernel
theorem dX13_worthAt_124 : decode cX13_worthAt 124 = .ok (.aload_n 0, 1) := by decide +kernel
theorem dX13_worthAt_125 : decode cX13_worthAt 125 = .ok (.getfield 122, 3) := by decide +kernel
theorem dX13_worthAt_128 : decode cX13_worthAt 128 = .ok (.iload_n 2, 1) := by decide +kernel
theorem dX13_worthAt_129 : decode cX13_worthAt 129 = .ok (.iaload, 1) := by decide +kernel
theorem dX13_worthAt_130 : decode cX13_worthAt 130 = .ok (.invokestatic 317, 3) := by decide +kernel
theorem dX13_worthAt_133 : decode cX13_worthAt 133 = .ok (.iastore, 1) := by decide +kernel
theorem dX13_worthAt_134 : decode cX13_worthAt 134 = .ok (.iinc 3 1, 3) := by decide +kernel
theorem dX13_worthAt_137 : decode cX13_worthAt 137 = .ok (.goto (-133), 3) := by decide +kernel
theorem dX13_worthAt_140 : decode cX13_worthAt 140 = .ok (.aload_n 0, 1) := by decide +kernel
theorem dX13_worthAt_141 : decode cX13_worthAt 141 = .ok (.getfield 122, 3) := by decide +kernel
theorem dX13_worthAt_144 : decode cX13_worthAt 144 = .ok (.iconst 0, 1) := by decide +kernel
theorem dX13_worthAt_145 : decode cX13_worthAt 145 = .ok (.iaload, 1) := by decide +kernel
theorem dX13_worthAt_146 : decode cX13_worthAt 146 = .ok (.ireturn, 1) := by decide +kernel
theorem dX13_both_0 : decode cX13_both 0 = .ok (.iload_n 0, 1) := by decide +kernel
theorem dX13_both_1 : decode cX13_both 1 = .ok (.tableswitch 87 4 9 #[39, 43, 47, 51, 62, 73], 39) := by decide +kernel
theorem dX13_both_40 : decode cX13_both 40 = .ok (.iload_n 1, 1) := by decide +kernel
theorem dX13_both_41 : decode cX13_both 41 = .ok (.iload_n 2, 1) := by decide +kernel
theorem dX13_both_42 : decode cX13_both 42 = .ok (.iadd, 1) := by decide +kernel
theorem dX13_both_43 : decode cX13_both 43 = .ok (.ireturn, 1) := by decide +kernel
theorem dX13_both_44 : decode cX13_both 44 = .ok (.iload_n 1, 1) := by decide +kernel
theorem dX13_both_45 : decode cX13_both 45 = .ok (.iload_n 2, 1) := by decide +kernel
theorem dX13_both_46 : decode cX13_both 46 = .ok (.isub, 1) := by decide +kernel
theorem dX13_both_47 : decode cX13_both 47 = .ok (.ireturn, 1) := by decide +kernel
theorem dX13_both_48 : decode cX13_both 48 = .ok (.iload_n 1, 1) := by decide +kernel
theorem dX13_both_49 : decode cX13_both 49 = .ok (.iload_n 2, 1) := by decide +kernel
theorem dX13_both_50 : decode cX13_both 50 = .ok (.imul, 1) := by decide +kernel
theorem dX13_both_51 : decode cX13_both 51 = .ok (.ireturn, 1) := by decide +kernel
theorem dX13_both_52 : decode cX13_both 52 = .ok (.iload_n 1, 1) := by decide +kernel
theorem dX13_both_53 : decode cX13_both 53 = .ok (.iload_n 2, 1) := by decide +kernel
theorem dX13_both_54 : decode cX13_both 54 = .ok (.if_icmp .ge 7, 3) := by decide +kernel
theorem dX13_both_57 : decode cX13_both 57 = .ok (.iconst 1, 1) := by decide +kernel
theorem dX13_both_58 : decode cX13_both 58 = .ok (.goto 4, 3) := by decide +kernel
theorem dX13_both_61 : decode cX13_both 61 = .ok (.iconst 0, 1) := by decide +kernel
theorem dX13_both_62 : decode cX13_both 62 = .ok (.ireturn, 1) := by decide +kernel
theorem dX13_both_63 : decode cX13_both 63 = .ok (.iload_n 1, 1) := by decide +kernel
theorem dX13_both_64 : decode cX13_both 64 = .ok (.iload_n 2, 1) := by decide +kernel
theorem dX13_both_65 : decode cX13_both 65 = .ok (.if_icmp .ne 7, 3) := by decide +kernel
theorem dX13_both_68 : decode cX13_both 68 = .ok (.iconst 1, 1) := by decide +kernel
theorem dX13_both_69 : decode cX13_both 69 = .ok (.goto 4, 3) := by decide +kernel
theorem dX13_both_72 : decode cX13_both 72 = .ok (.iconst 0, 1) := by decide +kernel
theorem dX13_both_73 : decode cX13_both 73 = .ok (.ireturn, 1) := by decide +kernel
theorem dX13_both_74 : decode cX13_both 74 = .ok (.iload_n 1, 1) := by decide +kernel
theorem dX13_both_75 : decode cX13_both 75 = .ok (.ifCond .eq 11, 3) := by decide +kernel
theorem dX13_both_78 : decode cX13_both 78 = .ok (.iload_n 2, 1) := by decide +kernel
theorem dX13_both_79 : decode cX13_both 79 = .ok (.ifCond .eq 7, 3) := by decide +kernel
theorem dX13_both_82 : decode cX13_both 82 = .ok (.iconst 1, 1) := by decide +kernel
theorem dX13_both_83 : decode cX13_both 83 = .ok (.goto 4, 3) := by decide +kernel
theorem dX13_both_86 : decode cX13_both 86 = .ok (.iconst 0, 1) := by decide +kernel
theorem dX13_both_87 : decode cX13_both 87 = .ok (.ireturn, 1) := by decide +kernel
theorem dX13_both_88 : decode cX13_both 88 = .ok (.iload_n 1, 1) := by decide +kernel
theorem dX13_both_89 : decode cX13_both 89 = .ok (.ifCond .ne 7, 3) := by decide +kernel
theorem dX13_both_92 : decode cX13_both 92 = .ok (.iload_n 2, 1) := by decide +kernel
theorem dX13_both_93 : decode cX13_both 93 = .ok (.ifCond .eq 7, 3) := by decide +kernel
theorem dX13_both_96 : decode cX13_both 96 = .ok (.iconst 1, 1) := by decide +kernel
theorem dX13_both_97 : decode cX13_both 97 = .ok (.goto 4, 3) := by decide +kernel
theorem dX13_both_100 : decode cX13_both 100 = .ok (.iconst 0, 1) := by decide +kernel
theorem dX13_both_101 : decode cX13_both 101 = .ok (.ireturn, 1) := by decide +kernel
theorem dX13_copies_0 : decode cX13_copies 0 = .ok (.iconst 0, 1) := by decide +kernel
theorem dX13_copies_1 : decode cX13_copies 1 = .ok (.istore 4, 2) := by decide +kernel
theorem dX13_copies_3 : decode cX13_copies 3 = .ok (.iload 4, 2) := by decide +kernel
theorem dX13_copies_5 : decode cX13_copies 5 = .ok (.iload_n 3, 1) := by decide +kernel
theorem dX13_copies_6 : decode cX13_copies 6 = .ok (.if_icmp .ge 27, 3) := by decide +kernel
theorem dX13_copies_9 : decode cX13_copies 9 = .ok (.aload_n 0, 1) := by decide +kernel
theorem dX13_copies_10 : decode cX13_copies 10 = .ok (.getfield 125, 3) := by decide +kernel
theorem dX13_copies_13 : decode cX13_copies 13 = .ok (.iload_n 2, 1) := by decide +kernel
theorem dX13_copies_14 : decode cX13_copies 14 = .ok (.iload 4, 2) := by decide +kernel
theorem dX13_copies_16 : decode cX13_copies 16 = .ok (.iadd, 1) := by decide +kernel
theorem dX13_copies_17 : decode cX13_copies 17 = .ok (.aload_n 0, 1) := by decide +kernel
theorem dX13_copies_18 : decode cX13_copies 18 = .ok (.getfield 125, 3) := by decide +kernel
theorem dX13_copies_21 : decode cX13_copies 21 = .ok (.iload_n 1, 1) := by decide +kernel
theorem dX13_copies_22 : decode cX13_copies 22 = .ok (.iload 4, 2) := by decide +kernel
theorem dX13_copies_24 : decode cX13_copies 24 = .ok (.iadd, 1) := by decide +kernel
theorem dX13_copies_25 : decode cX13_copies 25 = .ok (.iaload, 1) := by decide +kernel
theorem dX13_copies_26 : decode cX13_copies 26 = .ok (.iastore, 1) := by decide +kernel
theorem dX13_copies_27 : decode cX13_copies 27 = .ok (.iinc 4 1, 3) := by decide +kernel
theorem dX13_copies_30 : decode cX13_copies 30 = .ok (.goto (-27), 3) := by decide +kernel
theorem dX13_copies_33 : decode cX13_copies 33 = .ok (.return_, 1) := by decide +kernel
theorem dX13_starts_0 : decode cX13_starts 0 = .ok (.iconst 0, 1) := by decide +kernel
theorem dX13_starts_1 : decode cX13_starts 1 = .ok (.istore_n 2, 1) := by decide +kernel
theorem dX13_starts_2 : decode cX13_starts 2 = .ok (.iload_n 2, 1) := by decide +kernel
theorem dX13_starts_3 : decode cX13_starts 3 = .ok (.bipush 48, 2) := by decide +kernel
theorem dX13_starts_5 : decode cX13_starts 5 = .ok (.if_icmp .ge 18, 3) := by decide +kernel
theorem dX13_starts_8 : decode cX13_starts 8 = .ok (.aload_n 0, 1) := by decide +kernel
theorem dX13_starts_9 : decode cX13_starts 9 = .ok (.getfield 125, 3) := by decide +kernel
theorem dX13_starts_12 : decode cX13_starts 12 = .ok (.iload_n 1, 1) := by decide +kernel
theorem dX13_starts_13 : decode cX13_starts 13 = .ok (.iload_n 2, 1) := by decide +kernel
theorem dX13_starts_14 : decode cX13_starts 14 = .ok (.iadd, 1) := by decide +kernel
theorem dX13_starts_15 : decode cX13_starts 15 = .ok (.iconst 0, 1) := by decide +kernel
theorem dX13_starts_16 : decode cX13_starts 16 = .ok (.iastore, 1) := by decide +kernel
theorem dX13_starts_17 : decode cX13_starts 17 = .ok (.iinc 2 1, 3) := by decide +kernel
theorem dX13_starts_20 : decode cX13_starts 20 = .ok (.goto (-18), 3) := by decide +kernel
theorem dX13_starts_23 : decode cX13_starts 23 = .ok (.aload_n 0, 1) := by decide +kernel
theorem dX13_starts_24 : decode cX13_starts 24 = .ok (.getfield 125, 3) := by decide +kernel
theorem dX13_starts_27 : decode cX13_starts 27 = .ok (.iload_n 1, 1) := by decide +kernel
theorem dX13_starts_28 : decode cX13_starts 28 = .ok (.iconst 2, 1) := by decide +kernel
theorem dX13_starts_29 : decode cX13_starts 29 = .ok (.iadd, 1) := by decide +kernel
theorem dX13_starts_30 : decode cX13_starts 30 = .ok (.aload_n 0, 1) := by decide +kernel
theorem dX13_starts_31 : decode cX13_starts 31 = .ok (.getfield 95, 3) := by decide +kernel
theorem dX13_starts_34 : decode cX13_starts 34 = .ok (.iconst 3, 1) := by decide +kernel
theorem dX13_starts_35 : decode cX13_starts 35 = .ok (.iaload, 1) := by decide +kernel
theorem dX13_starts_36 : decode cX13_starts 36 = .ok (.iastore, 1) := by decide +kernel
theorem dX13_starts_37 : decode cX13_starts 37 = .ok (.iconst 0, 1) := by decide +kernel
theorem dX13_starts_38 : decode cX13_starts 38 = .ok (.istore_n 2, 1) := by decide +kernel
theorem dX13_starts_39 : decode cX13_starts 39 = .ok (.iload_n 2, 1) := by decide +kernel
theorem dX13_starts_40 : decode cX13_starts 40 = .ok (.aload_n 0, 1) := by decide +kernel
theorem dX13_starts_41 : decode cX13_starts 41 = .ok (.getfield 95, 3) := by decide +kernel
theorem dX13_starts_44 : decode cX13_starts 44 = .ok (.iconst 3, 1) := by decide +kernel
theorem dX13_starts_45 : decode cX13_starts 45 = .ok (.iaload, 1) := by decide +kernel
theorem dX13_starts_46 : decode cX13_starts 46 = .ok (.if_icmp .ge 113, 3) := by decide +kernel
theorem dX13_starts_49 : decode cX13_starts 49 = .ok (.bipush 30, 2) := by decide +kernel
theorem dX13_starts_51 : decode cX13_starts 51 = .ok (.iconst 4, 1) := by decide +kernel
theorem dX13_starts_52 : decode cX13_starts 52 = .ok (.iload_n 2, 1) := by decide +kernel
theorem dX13_starts_53 : decode cX13_starts 53 = .ok (.imul, 1) := by decide +kernel
theorem dX13_starts_54 : decode cX13_starts 54 = .ok (.iadd, 1) := by decide +kernel
theorem dX13_starts_55 : decode cX13_starts 55 = .ok (.istore_n 3, 1) := by decide +kernel
theorem dX13_starts_56 : decode cX13_starts 56 = .ok (.aload_n 0, 1) := by decide +kernel
theorem dX13_starts_57 : decode cX13_starts 57 = .ok (.getfield 125, 3) := by decide +kernel
theorem dX13_starts_60 : decode cX13_starts 60 = .ok (.iload_n 1, 1) := by decide +kernel
theorem dX13_starts_61 : decode cX13_starts 61 = .ok (.bipush 27, 2) := by decide +kernel
theorem dX13_starts_63 : decode cX13_starts 63 = .ok (.iadd, 1) := by decide +kernel
theorem dX13_starts_64 : decode cX13_starts 64 = .ok (.iload_n 2, 1) := by decide +kernel
theorem dX13_starts_65 : decode cX13_starts 65 = .ok (.iadd, 1) := by decide +kernel
theorem dX13_starts_66 : decode cX13_starts 66 = .ok (.aload_n 0, 1) := by decide +kernel
theorem dX13_starts_67 : decode cX13_starts 67 = .ok (.getfield 95, 3) := by decide +kernel
theorem dX13_starts_70 : decode cX13_starts 70 = .ok (.iload_n 3, 1) := by decide +kernel
theorem dX13_starts_71 : decode cX13_starts 71 = .ok (.iaload, 1) := by decide +kernel
theorem dX13_starts_72 : decode cX13_starts 72 = .ok (.iastore, 1) := by decide +kernel
theorem dX13_starts_73 : decode cX13_starts 73 = .ok (.aload_n 0, 1) := by decide +kernel
theorem dX13_starts_74 : decode cX13_starts 74 = .ok (.getfield 125, 3) := by decide +kernel
theorem dX13_starts_77 : decode cX13_starts 77 = .ok (.iload_n 1, 1) := by decide +kernel
theorem dX13_starts_78 : decode cX13_starts 78 = .ok (.iconst 3, 1) := by decide +kernel
theorem dX13_starts_79 : decode cX13_starts 79 = .ok (.iadd, 1) := by decide +kernel
theorem dX13_starts_80 : decode cX13_starts 80 = .ok (.iload_n 2, 1) := by decide +kernel
theorem dX13_starts_81 : decode cX13_starts 81 = .ok (.iadd, 1) := by decide +kernel
theorem dX13_starts_82 : decode cX13_starts 82 = .ok (.iload_n 2, 1) := by decide +kernel
theorem dX13_starts_83 : decode cX13_starts 83 = .ok (.ifCond .ne 7, 3) := by decide +kernel
theorem dX13_starts_86 : decode cX13_starts 86 = .ok (.iconst 0, 1) := by decide +kernel
theorem dX13_starts_87 : decode cX13_starts 87 = .ok (.goto 27, 3) := by decide +kernel
theorem dX13_starts_90 : decode cX13_starts 90 = .ok (.aload_n 0, 1) := by decide +kernel
theorem dX13_starts_91 : decode cX13_starts 91 = .ok (.getfield 125, 3) := by decide +kernel
theorem dX13_starts_94 : decode cX13_starts 94 = .ok (.iload_n 1, 1) := by decide +kernel
theorem dX13_starts_95 : decode cX13_starts 95 = .ok (.iconst 3, 1) := by decide +kernel
theorem dX13_starts_96 : decode cX13_starts 96 = .ok (.iadd, 1) := by decide +kernel
theorem dX13_starts_97 : decode cX13_starts 97 = .ok (.aload_n 0, 1) := by decide +kernel
theorem dX13_starts_98 : decode cX13_starts 98 = .ok (.getfield 95, 3) := by decide +kernel
theorem dX13_starts_101 : decode cX13_starts 101 = .ok (.iload_n 3, 1) := by decide +kernel
theorem dX13_starts_102 : decode cX13_starts 102 = .ok (.iaload, 1) := by decide +kernel
theorem dX13_starts_103 : decode cX13_starts 103 = .ok (.iadd, 1) := by decide +kernel
theorem dX13_starts_104 : decode cX13_starts 104 = .ok (.iaload, 1) := by decide +kernel
theorem dX13_starts_105 : decode cX13_starts 105 = .ok (.aload_n 0, 1) := by decide +kernel
theorem dX13_starts_106 : decode cX13_starts 106 = .ok (.getfield 95, 3) := by decide +kernel
theorem dX13_starts_109 : decode cX13_starts 109 = .ok (.iload_n 3, 1) := by decide +kernel
theorem dX13_starts_110 : decode cX13_starts 110 = .ok (.iconst 1, 1) := by decide +kernel
theorem dX13_starts_111 : decode cX13_starts 111 = .ok (.iadd, 1) := by decide +kernel
theorem dX13_starts_112 : decode cX13_starts 112 = .ok (.iaload, 1) := by decide +kernel
theorem dX13_starts_113 : decode cX13_starts 113 = .ok (.ixor, 1) := by decide +kernel
theorem dX13_starts_114 : decode cX13_starts 114 = .ok (.iastore, 1) := by decide +kernel
theorem dX13_starts_115 : decode cX13_starts 115 = .ok (.aload_n 0, 1) := by decide +kernel
theorem dX13_starts_116 : decode cX13_starts 116 = .ok (.getfield 125, 3) := by decide +kernel
theorem dX13_starts_119 : decode cX13_starts 119 = .ok (.iload_n 1, 1) := by decide +kernel
theorem dX13_starts_120 : decode cX13_starts 120 = .ok (.bipush 35, 2) := by decide +kernel
theorem dX13_starts_122 : decode cX13_starts 122 = .ok (.iadd, 1) := by decide +kernel
theorem dX13_starts_123 : decode cX13_starts 123 = .ok (.iload_n 2, 1) := by decide +kernel
theorem dX13_starts_124 : decode cX13_starts 124 = .ok (.iadd, 1) := by decide +kernel
theorem dX13_starts_125 : decode cX13_starts 125 = .ok (.aload_n 0, 1) := by decide +kernel
theorem dX13_starts_126 : decode cX13_starts 126 = .ok (.getfield 95, 3) := by decide +kernel
theorem dX13_starts_129 : decode cX13_starts 129 = .ok (.iload_n 3, 1) := by decide +kernel
theorem dX13_starts_130 : decode cX13_starts 130 = .ok (.iconst 2, 1) := by decide +kernel
theorem dX13_starts_131 : decode cX13_starts 131 = .ok (.iadd, 1) := by decide +kernel
theorem dX13_starts_132 : decode cX13_starts 132 = .ok (.iaload, 1) := by decide +kernel
theorem dX13_starts_133 : decode cX13_starts 133 = .ok (.iastore, 1) := by decide +kernel
theorem dX13_starts_134 : decode cX13_starts 134 = .ok (.aload_n 0, 1) := by decide +kernel
theorem dX13_starts_135 : decode cX13_starts 135 = .ok (.getfield 125, 3) := by decide +kernel
theorem dX13_starts_138 : decode cX13_starts 138 = .ok (.iload_n 1, 1) := by decide +kernel
theorem dX13_starts_139 : decode cX13_starts 139 = .ok (.bipush 11, 2) := by decide +kernel
theorem dX13_starts_141 : decode cX13_starts 141 = .ok (.iadd, 1) := by decide +kernel
theorem dX13_starts_142 : decode cX13_starts 142 = .ok (.iload_n 2, 1) := by decide +kernel
theorem dX13_starts_143 : decode cX13_starts 143 = .ok (.iadd, 1) := by decide +kernel
theorem dX13_starts_144 : decode cX13_starts 144 = .ok (.aload_n 0, 1) := by decide +kernel
theorem dX13_starts_145 : decode cX13_starts 145 = .ok (.getfield 95, 3) := by decide +kernel
theorem dX13_starts_148 : decode cX13_starts 148 = .ok (.iload_n 3, 1) := by decide +kernel
theorem dX13_starts_149 : decode cX13_starts 149 = .ok (.iconst 3, 1) := by decide +kernel
theorem dX13_starts_150 : decode cX13_starts 150 = .ok (.iadd, 1) := by decide +kernel
theorem dX13_starts_151 : decode cX13_starts 151 = .ok (.iaload, 1) := by decide +kernel
theorem dX13_starts_152 : decode cX13_starts 152 = .ok (.iastore, 1) := by decide +kernel
theorem dX13_starts_153 : decode cX13_starts 153 = .ok (.iinc 2 1, 3) := by decide +kernel
theorem dX13_starts_156 : decode cX13_starts 156 = .ok (.goto (-117), 3) := by decide +kernel
theorem dX13_starts_159 : decode cX13_starts 159 = .ok (.iconst 0, 1) := by decide +kernel
theorem dX13_starts_160 : decode cX13_starts 160 = .ok (.istore_n 2, 1) := by decide +kernel
theorem dX13_starts_161 : decode cX13_starts 161 = .ok (.iload_n 2, 1) := by decide +kernel
theorem dX13_starts_162 : decode cX13_starts 162 = .ok (.aload_n 0, 1) := by decide +kernel
theorem dX13_starts_163 : decode cX13_starts 163 = .ok (.invokevirtual 320, 3) := by decide +kernel
theorem dX13_starts_166 : decode cX13_starts 166 = .ok (.if_icmp .ge 26, 3) := by decide +kernel
theorem dX13_starts_169 : decode cX13_starts 169 = .ok (.aload_n 0, 1) := by decide +kernel
theorem dX13_starts_170 : decode cX13_starts 170 = .ok (.getfield 125, 3) := by decide +kernel
theorem dX13_starts_173 : decode cX13_starts 173 = .ok (.iload_n 1, 1) := by decide +kernel
theorem dX13_starts_174 : decode cX13_starts 174 = .ok (.bipush 43, 2) := by decide +kernel
theorem dX13_starts_176 : decode cX13_starts 176 = .ok (.iadd, 1) := by decide +kernel
theorem dX13_starts_177 : decode cX13_starts 177 = .ok (.iload_n 2, 1) := by decide +kernel
theorem dX13_starts_178 : decode cX13_starts 178 = .ok (.iadd, 1) := by decide +kernel
theorem dX13_starts_179 : decode cX13_starts 179 = .ok (.aload_n 0, 1) := by decide +kernel
theorem dX13_starts_180 : decode cX13_starts 180 = .ok (.iload_n 2, 1) := by decide +kernel
theorem dX13_starts_181 : decode cX13_starts 181 = .ok (.iconst 2, 1) := by decide +kernel
theorem dX13_starts_182 : decode cX13_starts 182 = .ok (.invokevirtual 323, 3) := by decide +kernel
theorem dX13_starts_185 : decode cX13_starts 185 = .ok (.iastore, 1) := by decide +kernel
theorem dX13_starts_186 : decode cX13_starts 186 = .ok (.iinc 2 1, 3) := by decide +kernel
theorem dX13_starts_189 : decode cX13_starts 189 = .ok (.goto (-28), 3) := by decide +kernel
theorem dX13_starts_192 : decode cX13_starts 192 = .ok (.return_, 1) := by decide +kernel
theorem dX13_begins_0 : decode cX13_begins 0 = .ok (.aload_n 0, 1) := by decide +kernel
theorem dX13_begins_1 : decode cX13_begins 1 = .ok (.iconst 0, 1) := by decide +kernel
theorem dX13_begins_2 : decode cX13_begins 2 = .ok (.invokevirtual 326, 3) := by decide +kernel
theorem dX13_begins_5 : decode cX13_begins 5 = .ok (.aload_n 0, 1) := by decide +kernel
theorem dX13_begins_6 : decode cX13_begins 6 = .ok (.getfield 125, 3) := by decide +kernel
theorem dX13_begins_9 : decode cX13_begins 9 = .ok (.bipush 48, 2) := by decide +kernel
theorem dX13_begins_11 : decode cX13_begins 11 = .ok (.iconst 0, 1) := by decide +kernel
theorem dX13_begins_12 : decode cX13_begins 12 = .ok (.iastore, 1) := by decide +kernel
theorem dX13_begins_13 : decode cX13_begins 13 = .ok (.aload_n 0, 1) := by decide +kernel
theorem dX13_begins_14 : decode cX13_begins 14 = .ok (.getfield 116, 3) := by decide +kernel
theorem dX13_begins_17 : decode cX13_begins 17 = .ok (.iconst 0, 1) := by decide +kernel
theorem dX13_begins_18 : decode cX13_begins 18 = .ok (.iconst 0, 1) := by decide +kernel
theorem dX13_begins_19 : decode cX13_begins 19 = .ok (.iastore, 1) := by decide +kernel
theorem dX13_begins_20 : decode cX13_begins 20 = .ok (.aload_n 0, 1) := by decide +kernel
theorem dX13_begins_21 : decode cX13_begins 21 = .ok (.iconst 0, 1) := by decide +kernel
theorem dX13_begins_22 : decode cX13_begins 22 = .ok (.putfield 329, 3) := by decide +kernel
theorem dX13_begins_25 : decode cX13_begins 25 = .ok (.iconst 0, 1) := by decide +kernel
theorem dX13_begins_26 : decode cX13_begins 26 = .ok (.istore_n 1, 1) := by decide +kernel
theorem dX13_begins_27 : decode cX13_begins 27 = .ok (.iload_n 1, 1) := by decide +kernel
theorem dX13_begins_28 : decode cX13_begins 28 = .ok (.iconst 4, 1) := by decide +kernel
theorem dX13_begins_29 : decode cX13_begins 29 = .ok (.if_icmp .ge 16, 3) := by decide +kernel
theorem dX13_begins_32 : decode cX13_begins 32 = .ok (.aload_n 0, 1) := by decide +kernel
theorem dX13_begins_33 : decode cX13_begins 33 = .ok (.getfield 128, 3) := by decide +kernel
theorem dX13_begins_36 : decode cX13_begins 36 = .ok (.iload_n 1, 1) := by decide +kernel
theorem dX13_begins_37 : decode cX13_begins 37 = .ok (.iconst 0, 1) := by decide +kernel
theorem dX13_begins_38 : decode cX13_begins 38 = .ok (.bastore, 1) := by decide +kernel
theorem dX13_begins_39 : decode cX13_begins 39 = .ok (.iinc 1 1, 3) := by decide +kernel
theorem dX13_begins_42 : decode cX13_begins 42 = .ok (.goto (-15), 3) := by decide +kernel
theorem dX13_begins_45 : decode cX13_begins 45 = .ok (.return_, 1) := by decide +kernel
theorem dX13_keeps_0 : decode cX13_keeps 0 = .ok (.aload_n 0, 1) := by decide +kernel
theorem dX13_keeps_1 : decode cX13_keeps 1 = .ok (.getfield 329, 3) := by decide +kernel
theorem dX13_keeps_4 : decode cX13_keeps 4 = .ok (.bipush 16, 2) := by decide +kernel
theorem dX13_keeps_6 : decode cX13_keeps 6 = .ok (.if_icmp .ne 47, 3) := by decide +kernel
theorem dX13_keeps_9 : decode cX13_keeps 9 = .ok (.iconst 1, 1) := by decide +kernel
theorem dX13_keeps_10 : decode cX13_keeps 10 = .ok (.istore_n 1, 1) := by decide +kernel
theorem dX13_keeps_11 : decode cX13_keeps 11 = .ok (.iload_n 1, 1) := by decide +kernel
theorem dX13_keeps_12 : decode cX13_keeps 12 = .ok (.bipush 16, 2) := by decide +kernel
theorem dX13_keeps_14 : decode cX13_keeps 14 = .ok (.if_icmp .ge 29, 3) := by decide +kernel
theorem dX13_keeps_17 : decode cX13_keeps 17 = .ok (.aload_n 0, 1) := by decide +kernel
theorem dX13_keeps_18 : decode cX13_keeps 18 = .ok (.bipush 66, 2) := by decide +kernel
theorem dX13_keeps_20 : decode cX13_keeps 20 = .ok (.iconst 5, 1) := by decide +kernel
theorem dX13_keeps_21 : decode cX13_keeps 21 = .ok (.iload_n 1, 1) := by decide +kernel
theorem dX13_keeps_22 : decode cX13_keeps 22 = .ok (.iadd, 1) := by decide +kernel
theorem dX13_keeps_23 : decode cX13_keeps 23 = .ok (.imul, 1) := by decide +kernel
theorem dX13_keeps_24 : decode cX13_keeps 24 = .ok (.bipush 66, 2) := by decide +kernel
theorem dX13_keeps_26 : decode cX13_keeps 26 = .ok (.iconst 5, 1) := by decide +kernel
theorem dX13_keeps_27 : decode cX13_keeps 27 = .ok (.iload_n 1, 1) := by decide +kernel
theorem dX13_keeps_28 : decode cX13_keeps 28 = .ok (.iadd, 1) := by decide +kernel
theorem dX13_keeps_29 : decode cX13_keeps 29 = .ok (.iconst 1, 1) := by decide +kernel
theorem dX13_keeps_30 : decode cX13_keeps 30 = .ok (.isub, 1) := by decide +kernel
theorem dX13_keeps_31 : decode cX13_keeps 31 = .ok (.imul, 1) := by decide +kernel
theorem dX13_keeps_32 : decode cX13_keeps 32 = .ok (.bipush 48, 2) := by decide +kernel
theorem dX13_keeps_34 : decode cX13_keeps 34 = .ok (.invokevirtual 332, 3) := by decide +kernel
theorem dX13_keeps_37 : decode cX13_keeps 37 = .ok (.iinc 1 1, 3) := by decide +kernel
theorem dX13_keeps_40 : decode cX13_keeps 40 = .ok (.goto (-29), 3) := by decide +kernel
theorem dX13_keeps_43 : decode cX13_keeps 43 = .ok (.aload_n 0, 1) := by decide +kernel
theorem dX13_keeps_44 : decode cX13_keeps 44 = .ok (.dup, 1) := by decide +kernel
theorem dX13_keeps_45 : decode cX13_keeps 45 = .ok (.getfield 329, 3) := by decide +kernel
theorem dX13_keeps_48 : decode cX13_keeps 48 = .ok (.iconst 1, 1) := by decide +kernel
theorem dX13_keeps_49 : decode cX13_keeps 49 = .ok (.isub, 1) := by decide +kernel
theorem dX13_keeps_50 : decode cX13_keeps 50 = .ok (.putfield 329, 3) := by decide +kernel
theorem dX13_keeps_53 : decode cX13_keeps 53 = .ok (.aload_n 0, 1) := by decide +kernel
theorem dX13_keeps_54 : decode cX13_keeps 54 = .ok (.iconst 0, 1) := by decide +kernel
theorem dX13_keeps_55 : decode cX13_keeps 55 = .ok (.bipush 66, 2) := by decide +kernel
theorem dX13_keeps_57 : decode cX13_keeps 57 = .ok (.iconst 5, 1) := by decide +kernel
theorem dX13_keeps_58 : decode cX13_keeps 58 = .ok (.aload_n 0, 1) := by decide +kernel
theorem dX13_keeps_59 : decode cX13_keeps 59 = .ok (.getfield 329, 3) := by decide +kernel
theorem dX13_keeps_62 : decode cX13_keeps 62 = .ok (.iadd, 1) := by decide +kernel
theorem dX13_keeps_63 : decode cX13_keeps 63 = .ok (.imul, 1) := by decide +kernel
theorem dX13_keeps_64 : decode cX13_keeps 64 = .ok (.bipush 48, 2) := by decide +kernel
theorem dX13_keeps_66 : decode cX13_keeps 66 = .ok (.invokevirtual 332, 3) := by decide +kernel
theorem dX13_keeps_69 : decode cX13_keeps 69 = .ok (.aload_n 0, 1) := by decide +kernel
theorem dX13_keeps_70 : decode cX13_keeps 70 = .ok (.dup, 1) := by decide +kernel
theorem dX13_keeps_71 : decode cX13_keeps 71 = .ok (.getfield 329, 3) := by decide +kernel
theorem dX13_keeps_74 : decode cX13_keeps 74 = .ok (.iconst 1, 1) := by decide +kernel
theorem dX13_keeps_75 : decode cX13_keeps 75 = .ok (.iadd, 1) := by decide +kernel
theorem dX13_keeps_76 : decode cX13_keeps 76 = .ok (.putfield 329, 3) := by decide +kernel
theorem dX13_keeps_79 : decode cX13_keeps 79 = .ok (.return_, 1) := by decide +kernel
theorem dX13_spots_0 : decode cX13_spots 0 = .ok (.aload_n 0, 1) := by decide +kernel
theorem dX13_spots_1 : decode cX13_spots 1 = .ok (.getfield 95, 3) := by decide +kernel
theorem dX13_spots_4 : decode cX13_spots 4 = .ok (.iconst 0, 1) := by decide +kernel
theorem dX13_spots_5 : decode cX13_spots 5 = .ok (.iaload, 1) := by decide +kernel
theorem dX13_spots_6 : decode cX13_spots 6 = .ok (.ireturn, 1) := by decide +kernel
theorem dX13_thieves_0 : decode cX13_thieves 0 = .ok (.aload_n 0, 1) := by decide +kernel
theorem dX13_thieves_1 : decode cX13_thieves 1 = .ok (.getfield 95, 3) := by decide +kernel
theorem dX13_thieves_4 : decode cX13_thieves 4 = .ok (.iconst 1, 1) := by decide +kernel
theorem dX13_thieves_5 : decode cX13_thieves 5 = .ok (.iaload, 1) := by decide +kernel
theorem dX13_thieves_6 : decode cX13_thieves 6 = .ok (.ireturn, 1) := by decide +kernel
theorem dX13_experts_0 : decode cX13_experts 0 = .ok (.aload_n 0, 1) := by decide +kernel
theorem dX13_experts_1 : decode cX13_experts 1 = .ok (.getfield 95, 3) := by decide +kernel
theorem dX13_experts_4 : decode cX13_experts 4 = .ok (.iconst 2, 1) := by decide +kernel
theorem dX13_experts_5 : decode cX13_experts 5 = .ok (.iaload, 1) := by decide +kernel
theorem dX13_experts_6 : decode cX13_experts 6 = .ok (.ireturn, 1) := by decide +kernel
theorem dX13_thiefOf_0 : decode cX13_thiefOf 0 = .ok (.aload_n 0, 1) := by decide +kernel
theorem dX13_thiefOf_1 : decode cX13_thiefOf 1 = .ok (.getfield 95, 3) := by decide +kernel
theorem dX13_thiefOf_4 : decode cX13_thiefOf 4 = .ok (.bipush 6, 2) := by decide +kernel
theorem dX13_thiefOf_6 : decode cX13_thiefOf 6 = .ok (.iconst 4, 1) := by decide +kernel
theorem dX13_thiefOf_7 : decode cX13_thiefOf 7 = .ok (.iload_n 1, 1) := by decide +kernel
theorem dX13_thiefOf_8 : decode cX13_thiefOf 8 = .ok (.imul, 1) := by decide +kernel
theorem dX13_thiefOf_9 : decode cX13_thiefOf 9 = .ok (.iadd, 1) := by decide +kernel
theorem dX13_thiefOf_10 : decode cX13_thiefOf 10 = .ok (.iload_n 2, 1) := by decide +kernel
theorem dX13_thiefOf_11 : decode cX13_thiefOf 11 = .ok (.iadd, 1) := by decide +kernel
theorem dX13_thiefOf_12 : decode cX13_thiefOf 12 = .ok (.iaload, 1) := by decide +kernel
theorem dX13_thiefOf_13 : decode cX13_thiefOf 13 = .ok (.ireturn, 1) := by decide +kernel
theorem dX13_isThief_0 : decode cX13_isThief 0 = .ok (.iload_n 1, 1) := by decide +kernel
theorem dX13_isThief_1 : decode cX13_isThief 1 = .ok (.ifCond .lt 15, 3) := by decide +kernel
theorem dX13_isThief_4 : decode cX13_isThief 4 = .ok (.iload_n 1, 1) := by decide +kernel
theorem dX13_isThief_5 : decode cX13_isThief 5 = .ok (.aload_n 0, 1) := by decide +kernel
theorem dX13_isThief_6 : decode cX13_isThief 6 = .ok (.invokevirtual 320, 3) := by decide +kernel
theorem dX13_isThief_9 : decode cX13_isThief 9 = .ok (.if_icmp .ge 7, 3) := by decide +kernel
theorem dX13_isThief_12 : decode cX13_isThief 12 = .ok (.iconst 1, 1) := by decide +kernel
theorem dX13_isThief_13 : decode cX13_isThief 13 = .ok (.goto 4, 3) := by decide +kernel
theorem dX13_isThief_16 : decode cX13_isThief 16 = .ok (.iconst 0, 1) := by decide +kernel
theorem dX13_isThief_17 : decode cX13_isThief 17 = .ok (.ireturn, 1) := by decide +kernel
theorem dX13_isSpot_0 : decode cX13_isSpot 0 = .ok (.iload_n 1, 1) := by decide +kernel
theorem dX13_isSpot_1 : decode cX13_isSpot 1 = .ok (.ifCond .lt 15, 3) := by decide +kernel
theorem dX13_isSpot_4 : decode cX13_isSpot 4 = .ok (.iload_n 1, 1) := by decide +kernel
theorem dX13_isSpot_5 : decode cX13_isSpot 5 = .ok (.aload_n 0, 1) := by decide +kernel
theorem dX13_isSpot_6 : decode cX13_isSpot 6 = .ok (.invokevirtual 336, 3) := by decide +kernel
theorem dX13_isSpot_9 : decode cX13_isSpot 9 = .ok (.if_icmp .ge 7, 3) := by decide +kernel
theorem dX13_isSpot_12 : decode cX13_isSpot 12 = .ok (.iconst 1, 1) := by decide +kernel
theorem dX13_isSpot_13 : decode cX13_isSpot 13 = .ok (.goto 4, 3) := by decide +kernel
theorem dX13_isSpot_16 : decode cX13_isSpot 16 = .ok (.iconst 0, 1) := by decide +kernel
theorem dX13_isSpot_17 : decode cX13_isSpot 17 = .ok (.ireturn, 1) := by decide +kernel
theorem dX13_isPiece_0 : decode cX13_isPiece 0 = .ok (.iload_n 2, 1) := by decide +kernel
theorem dX13_isPiece_1 : decode cX13_isPiece 1 = .ok (.ifCond .lt 19, 3) := by decide +kernel
theorem dX13_isPiece_4 : decode cX13_isPiece 4 = .ok (.iload_n 2, 1) := by decide +kernel
theorem dX13_isPiece_5 : decode cX13_isPiece 5 = .ok (.aload_n 0, 1) := by decide +kernel
theorem dX13_isPiece_6 : decode cX13_isPiece 6 = .ok (.getfield 125, 3) := by decide +kernel
theorem dX13_isPiece_9 : decode cX13_isPiece 9 = .ok (.iload_n 1, 1) := by decide +kernel
theorem dX13_isPiece_10 : decode cX13_isPiece 10 = .ok (.iconst 2, 1) := by decide +kernel
theorem dX13_isPiece_11 : decode cX13_isPiece 11 = .ok (.iadd, 1) := by decide +kernel
theorem dX13_isPiece_12 : decode cX13_isPiece 12 = .ok (.iaload, 1) := by decide +kernel
theorem dX13_isPiece_13 : decode cX13_isPiece 13 = .ok (.if_icmp .ge 7, 3) := by decide +kernel
theorem dX13_isPiece_16 : decode cX13_isPiece 16 = .ok (.iconst 1, 1) := by decide +kernel
theorem dX13_isPiece_17 : decode cX13_isPiece 17 = .ok (.goto 4, 3) := by decide +kernel
theorem dX13_isPiece_20 : decode cX13_isPiece 20 = .ok (.iconst 0, 1) := by decide +kernel
theorem dX13_isPiece_21 : decode cX13_isPiece 21 = .ok (.ireturn, 1) := by decide +kernel
theorem dX13_bits_0 : decode cX13_bits 0 = .ok (.iconst 0, 1) := by decide +kernel
theorem dX13_bits_1 : decode cX13_bits 1 = .ok (.istore_n 1, 1) := by decide +kernel
theorem dX13_bits_2 : decode cX13_bits 2 = .ok (.iconst 0, 1) := by decide +kernel
theorem dX13_bits_3 : decode cX13_bits 3 = .ok (.istore_n 2, 1) := by decide +kernel
theorem dX13_bits_4 : decode cX13_bits 4 = .ok (.iload_n 2, 1) := by decide +kernel
theorem dX13_bits_5 : decode cX13_bits 5 = .ok (.bipush 30, 2) := by decide +kernel
theorem dX13_bits_7 : decode cX13_bits 7 = .ok (.if_icmp .ge 17, 3) := by decide +kernel
theorem dX13_bits_10 : decode cX13_bits 10 = .ok (.iload_n 1, 1) := by decide +kernel
theorem dX13_bits_11 : decode cX13_bits 11 = .ok (.iload_n 0, 1) := by decide +kernel
theorem dX13_bits_12 : decode cX13_bits 12 = .ok (.iload_n 2, 1) := by decide +kernel
theorem dX13_bits_13 : decode cX13_bits 13 = .ok (.ishr, 1) := by decide +kernel
theorem dX13_bits_14 : decode cX13_bits 14 = .ok (.iconst 1, 1) := by decide +kernel
theorem dX13_bits_15 : decode cX13_bits 15 = .ok (.iand, 1) := by decide +kernel
theorem dX13_bits_16 : decode cX13_bits 16 = .ok (.iadd, 1) := by decide +kernel
theorem dX13_bits_17 : decode cX13_bits 17 = .ok (.istore_n 1, 1) := by decide +kernel
theorem dX13_bits_18 : decode cX13_bits 18 = .ok (.iinc 2 1, 3) := by decide +kernel
theorem dX13_bits_21 : decode cX13_bits 21 = .ok (.goto (-17), 3) := by decide +kernel
theorem dX13_bits_24 : decode cX13_bits 24 = .ok (.iload_n 1, 1) := by decide +kernel
theorem dX13_bits_25 : decode cX13_bits 25 = .ok (.ireturn, 1) := by decide +kernel
theorem dX13_hanging_0 : decode cX13_hanging 0 = .ok (.iconst (-1), 1) := by decide +kernel
theorem dX13_hanging_1 : decode cX13_hanging 1 = .ok (.istore_n 2, 1) := by decide +kernel
theorem dX13_hanging_2 : decode cX13_hanging 2 = .ok (.iconst 0, 1) := by decide +kernel
theorem dX13_hanging_3 : decode cX13_hanging 3 = .ok (.istore_n 3, 1) := by decide +kernel
theorem dX13_hanging_4 : decode cX13_hanging 4 = .ok (.iload_n 3, 1) := by decide +kernel
theorem dX13_hanging_5 : decode cX13_hanging 5 = .ok (.aload_n 0, 1) := by decide +kernel
theorem dX13_hanging_6 : decode cX13_hanging 6 = .ok (.getfield 125, 3) := by decide +kernel
theorem dX13_hanging_9 : decode cX13_hanging 9 = .ok (.iload_n 1, 1) := by decide +kernel
theorem dX13_hanging_10 : decode cX13_hanging 10 = .ok (.iconst 2, 1) := by decide +kernel
theorem dX13_hanging_11 : decode cX13_hanging 11 = .ok (.iadd, 1) := by decide +kernel
theorem dX13_hanging_12 : decode cX13_hanging 12 = .ok (.iaload, 1) := by decide +kernel
theorem dX13_hanging_13 : decode cX13_hanging 13 = .ok (.if_icmp .ge 30, 3) := by decide +kernel
theorem dX13_hanging_16 : decode cX13_hanging 16 = .ok (.aload_n 0, 1) := by decide +kernel
theorem dX13_hanging_17 : decode cX13_hanging 17 = .ok (.getfield 125, 3) := by decide +kernel
theorem dX13_hanging_20 : decode cX13_hanging 20 = .ok (.iload_n 1, 1) := by decide +kernel
theorem dX13_hanging_21 : decode cX13_hanging 21 = .ok (.bipush 11, 2) := by decide +kernel
theorem dX13_hanging_23 : decode cX13_hanging 23 = .ok (.iadd, 1) := by decide +kernel
theorem dX13_hanging_24 : decode cX13_hanging 24 = .ok (.iload_n 3, 1) := by decide +kernel
theorem dX13_hanging_25 : decode cX13_hanging 25 = .ok (.iadd, 1) := by decide +kernel
theorem dX13_hanging_26 : decode cX13_hanging 26 = .ok (.iaload, 1) := by decide +kernel
theorem dX13_hanging_27 : decode cX13_hanging 27 = .ok (.iconst 5, 1) := by decide +kernel
theorem dX13_hanging_28 : decode cX13_hanging 28 = .ok (.if_icmp .ne 7, 3) := by decide +kernel
theorem dX13_hanging_31 : decode cX13_hanging 31 = .ok (.iload_n 3, 1) := by decide +kernel
theorem dX13_hanging_32 : decode cX13_hanging 32 = .ok (.goto 4, 3) := by decide +kernel
theorem dX13_hanging_35 : decode cX13_hanging 35 = .ok (.iload_n 2, 1) := by decide +kernel
theorem dX13_hanging_36 : decode cX13_hanging 36 = .ok (.istore_n 2, 1) := by decide +kernel
theorem dX13_hanging_37 : decode cX13_hanging 37 = .ok (.iinc 3 1, 3) := by decide +kernel
theorem dX13_hanging_40 : decode cX13_hanging 40 = .ok (.goto (-36), 3) := by decide +kernel
theorem dX13_hanging_43 : decode cX13_hanging 43 = .ok (.iload_n 2, 1) := by decide +kernel
theorem dX13_hanging_44 : decode cX13_hanging 44 = .ok (.ireturn, 1) := by decide +kernel
theorem dX13_worthOf_0 : decode cX13_worthOf 0 = .ok (.aload_n 0, 1) := by decide +kernel
theorem dX13_worthOf_1 : decode cX13_worthOf 1 = .ok (.getfield 119, 3) := by decide +kernel
theorem dX13_worthOf_4 : decode cX13_worthOf 4 = .ok (.iconst 0, 1) := by decide +kernel
theorem dX13_worthOf_5 : decode cX13_worthOf 5 = .ok (.aload_n 0, 1) := by decide +kernel
theorem dX13_worthOf_6 : decode cX13_worthOf 6 = .ok (.getfield 125, 3) := by decide +kernel
theorem dX13_worthOf_9 : decode cX13_worthOf 9 = .ok (.iload_n 1, 1) := by decide +kernel
theorem dX13_worthOf_10 : decode cX13_worthOf 10 = .ok (.iconst 3, 1) := by decide +kernel
theorem dX13_worthOf_11 : decode cX13_worthOf 11 = .ok (.iadd, 1) := by decide +kernel
theorem dX13_worthOf_12 : decode cX13_worthOf 12 = .ok (.iload_n 2, 1) := by decide +kernel
theorem dX13_worthOf_13 : decode cX13_worthOf 13 = .ok (.iadd, 1) := by decide +kernel
theorem dX13_worthOf_14 : decode cX13_worthOf 14 = .ok (.iaload, 1) := by decide +kernel
theorem dX13_worthOf_15 : decode cX13_worthOf 15 = .ok (.invokestatic 339, 3) := by decide +kernel
theorem dX13_worthOf_18 : decode cX13_worthOf 18 = .ok (.iastore, 1) := by decide +kernel
theorem dX13_worthOf_19 : decode cX13_worthOf 19 = .ok (.aload_n 0, 1) := by decide +kernel
theorem dX13_worthOf_20 : decode cX13_worthOf 20 = .ok (.getfield 119, 3) := by decide +kernel
theorem dX13_worthOf_23 : decode cX13_worthOf 23 = .ok (.iconst 1, 1) := by decide +kernel
theorem dX13_worthOf_24 : decode cX13_worthOf 24 = .ok (.iload_n 2, 1) := by decide +kernel
theorem dX13_worthOf_25 : decode cX13_worthOf 25 = .ok (.iastore, 1) := by decide +kernel
theorem dX13_worthOf_26 : decode cX13_worthOf 26 = .ok (.aload_n 0, 1) := by decide +kernel
theorem dX13_worthOf_27 : decode cX13_worthOf 27 = .ok (.getfield 119, 3) := by decide +kernel
theorem dX13_worthOf_30 : decode cX13_worthOf 30 = .ok (.iconst 2, 1) := by decide +kernel
theorem dX13_worthOf_31 : decode cX13_worthOf 31 = .ok (.aload_n 0, 1) := by decide +kernel
theorem dX13_worthOf_32 : decode cX13_worthOf 32 = .ok (.getfield 125, 3) := by decide +kernel
theorem dX13_worthOf_35 : decode cX13_worthOf 35 = .ok (.iload_n 1, 1) := by decide +kernel
theorem dX13_worthOf_36 : decode cX13_worthOf 36 = .ok (.bipush 19, 2) := by decide +kernel
theorem dX13_worthOf_38 : decode cX13_worthOf 38 = .ok (.iadd, 1) := by decide +kernel
theorem dX13_worthOf_39 : decode cX13_worthOf 39 = .ok (.iload_n 2, 1) := by decide +kernel
theorem dX13_worthOf_40 : decode cX13_worthOf 40 = .ok (.iadd, 1) := by decide +kernel
theorem dX13_worthOf_41 : decode cX13_worthOf 41 = .ok (.iaload, 1) := by decide +kernel
theorem dX13_worthOf_42 : decode cX13_worthOf 42 = .ok (.iastore, 1) := by decide +kernel
theorem dX13_worthOf_43 : decode cX13_worthOf 43 = .ok (.aload_n 0, 1) := by decide +kernel
theorem dX13_worthOf_44 : decode cX13_worthOf 44 = .ok (.getfield 95, 3) := by decide +kernel
theorem dX13_worthOf_47 : decode cX13_worthOf 47 = .ok (.iconst 4, 1) := by decide +kernel
theorem dX13_worthOf_48 : decode cX13_worthOf 48 = .ok (.iaload, 1) := by decide +kernel
theorem dX13_worthOf_49 : decode cX13_worthOf 49 = .ok (.ifCond .ge 20, 3) := by decide +kernel
theorem dX13_worthOf_52 : decode cX13_worthOf 52 = .ok (.bipush 100, 2) := by decide +kernel
theorem dX13_worthOf_54 : decode cX13_worthOf 54 = .ok (.aload_n 0, 1) := by decide +kernel
theorem dX13_worthOf_55 : decode cX13_worthOf 55 = .ok (.getfield 119, 3) := by decide +kernel
theorem dX13_worthOf_58 : decode cX13_worthOf 58 = .ok (.iconst 0, 1) := by decide +kernel
theorem dX13_worthOf_59 : decode cX13_worthOf 59 = .ok (.iaload, 1) := by decide +kernel
theorem dX13_worthOf_60 : decode cX13_worthOf 60 = .ok (.bipush 10, 2) := by decide +kernel
theorem dX13_worthOf_62 : decode cX13_worthOf 62 = .ok (.imul, 1) := by decide +kernel
theorem dX13_worthOf_63 : decode cX13_worthOf 63 = .ok (.isub, 1) := by decide +kernel
theorem dX13_worthOf_64 : decode cX13_worthOf 64 = .ok (.iload_n 2, 1) := by decide +kernel
theorem dX13_worthOf_65 : decode cX13_worthOf 65 = .ok (.isub, 1) := by decide +kernel
theorem dX13_worthOf_66 : decode cX13_worthOf 66 = .ok (.goto 13, 3) := by decide +kernel
theorem dX13_worthOf_69 : decode cX13_worthOf 69 = .ok (.aload_n 0, 1) := by decide +kernel
theorem dX13_worthOf_70 : decode cX13_worthOf 70 = .ok (.aload_n 0, 1) := by decide +kernel
theorem dX13_worthOf_71 : decode cX13_worthOf 71 = .ok (.getfield 95, 3) := by decide +kernel
theorem dX13_worthOf_74 : decode cX13_worthOf 74 = .ok (.iconst 4, 1) := by decide +kernel
theorem dX13_worthOf_75 : decode cX13_worthOf 75 = .ok (.iaload, 1) := by decide +kernel
theorem dX13_worthOf_76 : decode cX13_worthOf 76 = .ok (.invokevirtual 342, 3) := by decide +kernel
theorem dX13_worthOf_79 : decode cX13_worthOf 79 = .ok (.istore_n 3, 1) := by decide +kernel
theorem dX13_worthOf_80 : decode cX13_worthOf 80 = .ok (.iload_n 3, 1) := by decide +kernel
theorem dX13_worthOf_81 : decode cX13_worthOf 81 = .ok (.ifCond .ge 7, 3) := by decide +kernel
theorem dX13_worthOf_84 : decode cX13_worthOf 84 = .ok (.iconst 0, 1) := by decide +kernel
theorem dX13_worthOf_85 : decode cX13_worthOf 85 = .ok (.goto 17, 3) := by decide +kernel
theorem dX13_worthOf_88 : decode cX13_worthOf 88 = .ok (.iload_n 3, 1) := by decide +kernel
theorem dX13_worthOf_89 : decode cX13_worthOf 89 = .ok (.sipush 999, 3) := by decide +kernel
theorem dX13_worthOf_92 : decode cX13_worthOf 92 = .ok (.if_icmp .le 9, 3) := by decide +kernel
theorem dX13_worthOf_95 : decode cX13_worthOf 95 = .ok (.sipush 999, 3) := by decide +kernel
theorem dX13_worthOf_98 : decode cX13_worthOf 98 = .ok (.goto 4, 3) := by decide +kernel
theorem dX13_worthOf_101 : decode cX13_worthOf 101 = .ok (.iload_n 3, 1) := by decide +kernel
theorem dX13_worthOf_102 : decode cX13_worthOf 102 = .ok (.ireturn, 1) := by decide +kernel
theorem dX13_hardOf_0 : decode cX13_hardOf 0 = .ok (.aload_n 0, 1) := by decide +kernel
theorem dX13_hardOf_1 : decode cX13_hardOf 1 = .ok (.getfield 119, 3) := by decide +kernel
theorem dX13_hardOf_4 : decode cX13_hardOf 4 = .ok (.iconst 0, 1) := by decide +kernel
theorem dX13_hardOf_5 : decode cX13_hardOf 5 = .ok (.aload_n 0, 1) := by decide +kernel
theorem dX13_hardOf_6 : decode cX13_hardOf 6 = .ok (.getfield 125, 3) := by decide +kernel
theorem dX13_hardOf_9 : decode cX13_hardOf 9 = .ok (.iload_n 1, 1) := by decide +kernel
theorem dX13_hardOf_10 : decode cX13_hardOf 10 = .ok (.iconst 3, 1) := by decide +kernel
theorem dX13_hardOf_11 : decode cX13_hardOf 11 = .ok (.iadd, 1) := by decide +kernel
theorem dX13_hardOf_12 : decode cX13_hardOf 12 = .ok (.iload_n 2, 1) := by decide +kernel
theorem dX13_hardOf_13 : decode cX13_hardOf 13 = .ok (.iadd, 1) := by decide +kernel
theorem dX13_hardOf_14 : decode cX13_hardOf 14 = .ok (.iaload, 1) := by decide +kernel
theorem dX13_hardOf_15 : decode cX13_hardOf 15 = .ok (.invokestatic 339, 3) := by decide +kernel
theorem dX13_hardOf_18 : decode cX13_hardOf 18 = .ok (.iastore, 1) := by decide +kernel
theorem dX13_hardOf_19 : decode cX13_hardOf 19 = .ok (.aload_n 0, 1) := by decide +kernel
theorem dX13_hardOf_20 : decode cX13_hardOf 20 = .ok (.getfield 119, 3) := by decide +kernel
theorem dX13_hardOf_23 : decode cX13_hardOf 23 = .ok (.iconst 1, 1) := by decide +kernel
theorem dX13_hardOf_24 : decode cX13_hardOf 24 = .ok (.iload_n 2, 1) := by decide +kernel
theorem dX13_hardOf_25 : decode cX13_hardOf 25 = .ok (.iastore, 1) := by decide +kernel
theorem dX13_hardOf_26 : decode cX13_hardOf 26 = .ok (.aload_n 0, 1) := by decide +kernel
theorem dX13_hardOf_27 : decode cX13_hardOf 27 = .ok (.getfield 119, 3) := by decide +kernel
theorem dX13_hardOf_30 : decode cX13_hardOf 30 = .ok (.iconst 3, 1) := by decide +kernel
theorem dX13_hardOf_31 : decode cX13_hardOf 31 = .ok (.iload_n 3, 1) := by decide +kernel
theorem dX13_hardOf_32 : decode cX13_hardOf 32 = .ok (.iastore, 1) := by decide +kernel
theorem dX13_hardOf_33 : decode cX13_hardOf 33 = .ok (.aload_n 0, 1) := by decide +kernel
theorem dX13_hardOf_34 : decode cX13_hardOf 34 = .ok (.getfield 95, 3) := by decide +kernel
theorem dX13_hardOf_37 : decode cX13_hardOf 37 = .ok (.iconst 5, 1) := by decide +kernel
theorem dX13_hardOf_38 : decode cX13_hardOf 38 = .ok (.iaload, 1) := by decide +kernel
theorem dX13_hardOf_39 : decode cX13_hardOf 39 = .ok (.ifCond .ge 14, 3) := by decide +kernel
theorem dX13_hardOf_42 : decode cX13_hardOf 42 = .ok (.aload_n 0, 1) := by decide +kernel
theorem dX13_hardOf_43 : decode cX13_hardOf 43 = .ok (.getfield 119, 3) := by decide +kernel
theorem dX13_hardOf_46 : decode cX13_hardOf 46 = .ok (.iconst 0, 1) := by decide +kernel
theorem dX13_hardOf_47 : decode cX13_hardOf 47 = .ok (.iaload, 1) := by decide +kernel
theorem dX13_hardOf_48 : decode cX13_hardOf 48 = .ok (.iload_n 3, 1) := by decide +kernel
theorem dX13_hardOf_49 : decode cX13_hardOf 49 = .ok (.iadd, 1) := by decide +kernel
theorem dX13_hardOf_50 : decode cX13_hardOf 50 = .ok (.goto 13, 3) := by decide +kernel
theorem dX13_hardOf_53 : decode cX13_hardOf 53 = .ok (.aload_n 0, 1) := by decide +kernel
theorem dX13_hardOf_54 : decode cX13_hardOf 54 = .ok (.aload_n 0, 1) := by decide +kernel
theorem dX13_hardOf_55 : decode cX13_hardOf 55 = .ok (.getfield 95, 3) := by decide +kernel
theorem dX13_hardOf_58 : decode cX13_hardOf 58 = .ok (.iconst 5, 1) := by decide +kernel
theorem dX13_hardOf_59 : decode cX13_hardOf 59 = .ok (.iaload, 1) := by decide +kernel
theorem dX13_hardOf_60 : decode cX13_hardOf 60 = .ok (.invokevirtual 342, 3) := by decide +kernel
theorem dX13_hardOf_63 : decode cX13_hardOf 63 = .ok (.ireturn, 1) := by decide +kernel
theorem dX13_piece_0 : decode cX13_piece 0 = .ok (.aload_n 0, 1) := by decide +kernel
theorem dX13_piece_1 : decode cX13_piece 1 = .ok (.iconst 0, 1) := by decide +kernel
theorem dX13_piece_2 : decode cX13_piece 2 = .ok (.putfield 1, 3) := by decide +kernel
theorem dX13_piece_5 : decode cX13_piece 5 = .ok (.aload_n 0, 1) := by decide +kernel
theorem dX13_piece_6 : decode cX13_piece 6 = .ok (.iconst 0, 1) := by decide +kernel
theorem dX13_piece_7 : decode cX13_piece 7 = .ok (.iload_n 1, 1) := by decide +kernel
theorem dX13_piece_8 : decode cX13_piece 8 = .ok (.invokevirtual 345, 3) := by decide +kernel
theorem dX13_piece_11 : decode cX13_piece 11 = .ok (.ifCond .eq 12, 3) := by decide +kernel
theorem dX13_piece_14 : decode cX13_piece 14 = .ok (.iload_n 2, 1) := by decide +kernel
theorem dX13_piece_15 : decode cX13_piece 15 = .ok (.iconst 0, 1) := by decide +kernel
theorem dX13_piece_16 : decode cX13_piece 16 = .ok (.iconst 4, 1) := by decide +kernel
theorem dX13_piece_17 : decode cX13_piece 17 = .ok (.invokestatic 231, 3) := by decide +kernel
theorem dX13_piece_20 : decode cX13_piece 20 = .ok (.ifCond .ne 5, 3) := by decide +kernel
theorem dX13_piece_23 : decode cX13_piece 23 = .ok (.iconst (-1), 1) := by decide +kernel
theorem dX13_piece_24 : decode cX13_piece 24 = .ok (.ireturn, 1) := by decide +kernel
theorem dX13_piece_25 : decode cX13_piece 25 = .ok (.iload_n 2, 1) := by decide +kernel
theorem dX13_piece_26 : decode cX13_piece 26 = .ok (.tableswitch 69 0 3 #[30, 39, 49, 59], 30) := by decide +kernel
theorem dX13_piece_56 : decode cX13_piece 56 = .ok (.aload_n 0, 1) := by decide +kernel
theorem dX13_piece_57 : decode cX13_piece 57 = .ok (.getfield 125, 3) := by decide +kernel
theorem dX13_piece_60 : decode cX13_piece 60 = .ok (.iconst 3, 1) := by decide +kernel
theorem dX13_piece_61 : decode cX13_piece 61 = .ok (.iload_n 1, 1) := by decide +kernel
theorem dX13_piece_62 : decode cX13_piece 62 = .ok (.iadd, 1) := by decide +kernel
theorem dX13_piece_63 : decode cX13_piece 63 = .ok (.iaload, 1) := by decide +kernel
theorem dX13_piece_64 : decode cX13_piece 64 = .ok (.ireturn, 1) := by decide +kernel
theorem dX13_piece_65 : decode cX13_piece 65 = .ok (.aload_n 0, 1) := by decide +kernel
theorem dX13_piece_66 : decode cX13_piece 66 = .ok (.getfield 125, 3) := by decide +kernel
theorem dX13_piece_69 : decode cX13_piece 69 = .ok (.bipush 11, 2) := by decide +kernel
theorem dX13_piece_71 : decode cX13_piece 71 = .ok (.iload_n 1, 1) := by decide +kernel
theorem dX13_piece_72 : decode cX13_piece 72 = .ok (.iadd, 1) := by decide +kernel
theorem dX13_piece_73 : decode cX13_piece 73 = .ok (.iaload, 1) := by decide +kernel
theorem dX13_piece_74 : decode cX13_piece 74 = .ok (.ireturn, 1) := by decide +kernel
theorem dX13_piece_75 : decode cX13_piece 75 = .ok (.aload_n 0, 1) := by decide +kernel
theorem dX13_piece_76 : decode cX13_piece 76 = .ok (.getfield 125, 3) := by decide +kernel
theorem dX13_piece_79 : decode cX13_piece 79 = .ok (.bipush 27, 2) := by decide +kernel
theorem dX13_piece_81 : decode cX13_piece 81 = .ok (.iload_n 1, 1) := by decide +kernel
theorem dX13_piece_82 : decode cX13_piece 82 = .ok (.iadd, 1) := by decide +kernel
theorem dX13_piece_83 : decode cX13_piece 83 = .ok (.iaload, 1) := by decide +kernel
theorem dX13_piece_84 : decode cX13_piece 84 = .ok (.ireturn, 1) := by decide +kernel
theorem dX13_piece_85 : decode cX13_piece 85 = .ok (.aload_n 0, 1) := by decide +kernel
theorem dX13_piece_86 : decode cX13_piece 86 = .ok (.getfield 125, 3) := by decide +kernel
theorem dX13_piece_89 : decode cX13_piece 89 = .ok (.bipush 19, 2) := by decide +kernel
theorem dX13_piece_91 : decode cX13_piece 91 = .ok (.iload_n 1, 1) := by decide +kernel
theorem dX13_piece_92 : decode cX13_piece 92 = .ok (.iadd, 1) := by decide +kernel
theorem dX13_piece_93 : decode cX13_piece 93 = .ok (.iaload, 1) := by decide +kernel
theorem dX13_piece_94 : decode cX13_piece 94 = .ok (.ireturn, 1) := by decide +kernel
theorem dX13_piece_95 : decode cX13_piece 95 = .ok (.aload_n 0, 1) := by decide +kernel
theorem dX13_piece_96 : decode cX13_piece 96 = .ok (.iconst 0, 1) := by decide +kernel
theorem dX13_piece_97 : decode cX13_piece 97 = .ok (.iload_n 1, 1) := by decide +kernel
theorem dX13_piece_98 : decode cX13_piece 98 = .ok (.invokevirtual 349, 3) := by decide +kernel
theorem dX13_piece_101 : decode cX13_piece 101 = .ok (.ireturn, 1) := by decide +kernel
theorem dX13_distanceOf_0 : decode cX13_distanceOf 0 = .ok (.aload_n 0, 1) := by decide +kernel
theorem dX13_distanceOf_1 : decode cX13_distanceOf 1 = .ok (.getfield 125, 3) := by decide +kernel
theorem dX13_distanceOf_4 : decode cX13_distanceOf 4 = .ok (.iconst 3, 1) := by decide +kernel
theorem dX13_distanceOf_5 : decode cX13_distanceOf 5 = .ok (.iload_n 1, 1) := by decide +kernel
theorem dX13_distanceOf_6 : decode cX13_distanceOf 6 = .ok (.iadd, 1) := by decide +kernel
theorem dX13_distanceOf_7 : decode cX13_distanceOf 7 = .ok (.iaload, 1) := by decide +kernel
theorem dX13_distanceOf_8 : decode cX13_distanceOf 8 = .ok (.aload_n 0, 1) := by decide +kernel
theorem dX13_distanceOf_9 : decode cX13_distanceOf 9 = .ok (.getfield 125, 3) := by decide +kernel
theorem dX13_distanceOf_12 : decode cX13_distanceOf 12 = .ok (.iconst 3, 1) := by decide +kernel
theorem dX13_distanceOf_13 : decode cX13_distanceOf 13 = .ok (.iload_n 2, 1) := by decide +kernel
theorem dX13_distanceOf_14 : decode cX13_distanceOf 14 = .ok (.iadd, 1) := by decide +kernel
theorem dX13_distanceOf_15 : decode cX13_distanceOf 15 = .ok (.iaload, 1) := by decide +kernel
theorem dX13_distanceOf_16 : decode cX13_distanceOf 16 = .ok (.ixor, 1) := by decide +kernel
theorem dX13_distanceOf_17 : decode cX13_distanceOf 17 = .ok (.invokestatic 339, 3) := by decide +kernel
theorem dX13_distanceOf_20 : decode cX13_distanceOf 20 = .ok (.ireturn, 1) := by decide +kernel
theorem dX13_distance_0 : decode cX13_distance 0 = .ok (.aload_n 0, 1) := by decide +kernel
theorem dX13_distance_1 : decode cX13_distance 1 = .ok (.iconst 0, 1) := by decide +kernel
theorem dX13_distance_2 : decode cX13_distance 2 = .ok (.putfield 1, 3) := by decide +kernel
theorem dX13_distance_5 : decode cX13_distance 5 = .ok (.aload_n 0, 1) := by decide +kernel
theorem dX13_distance_6 : decode cX13_distance 6 = .ok (.iconst 0, 1) := by decide +kernel
theorem dX13_distance_7 : decode cX13_distance 7 = .ok (.iload_n 1, 1) := by decide +kernel
theorem dX13_distance_8 : decode cX13_distance 8 = .ok (.invokevirtual 345, 3) := by decide +kernel
theorem dX13_distance_11 : decode cX13_distance 11 = .ok (.ifCond .eq 21, 3) := by decide +kernel
theorem dX13_distance_14 : decode cX13_distance 14 = .ok (.aload_n 0, 1) := by decide +kernel
theorem dX13_distance_15 : decode cX13_distance 15 = .ok (.iconst 0, 1) := by decide +kernel
theorem dX13_distance_16 : decode cX13_distance 16 = .ok (.iload_n 2, 1) := by decide +kernel
theorem dX13_distance_17 : decode cX13_distance 17 = .ok (.invokevirtual 345, 3) := by decide +kernel
theorem dX13_distance_20 : decode cX13_distance 20 = .ok (.ifCond .eq 12, 3) := by decide +kernel
theorem dX13_distance_23 : decode cX13_distance 23 = .ok (.aload_n 0, 1) := by decide +kernel
theorem dX13_distance_24 : decode cX13_distance 24 = .ok (.iload_n 1, 1) := by decide +kernel
theorem dX13_distance_25 : decode cX13_distance 25 = .ok (.iload_n 2, 1) := by decide +kernel
theorem dX13_distance_26 : decode cX13_distance 26 = .ok (.invokevirtual 352, 3) := by decide +kernel
theorem dX13_distance_29 : decode cX13_distance 29 = .ok (.goto 4, 3) := by decide +kernel
theorem dX13_distance_32 : decode cX13_distance 32 = .ok (.iconst (-1), 1) := by decide +kernel
theorem dX13_distance_33 : decode cX13_distance 33 = .ok (.ireturn, 1) := by decide +kernel
theorem dX13_hasOf_0 : decode cX13_hasOf 0 = .ok (.iconst 0, 1) := by decide +kernel
theorem dX13_hasOf_1 : decode cX13_hasOf 1 = .ok (.istore_n 3, 1) := by decide +kernel
theorem dX13_hasOf_2 : decode cX13_hasOf 2 = .ok (.iconst 0, 1) := by decide +kernel
theorem dX13_hasOf_3 : decode cX13_hasOf 3 = .ok (.istore 4, 2) := by decide +kernel
theorem dX13_hasOf_5 : decode cX13_hasOf 5 = .ok (.iload 4, 2) := by decide +kernel
theorem dX13_hasOf_7 : decode cX13_hasOf 7 = .ok (.aload_n 0, 1) := by decide +kernel
theorem dX13_hasOf_8 : decode cX13_hasOf 8 = .ok (.getfield 125, 3) := by decide +kernel
theorem dX13_hasOf_11 : decode cX13_hasOf 11 = .ok (.iload_n 1, 1) := by decide +kernel
theorem dX13_hasOf_12 : decode cX13_hasOf 12 = .ok (.iconst 2, 1) := by decide +kernel
theorem dX13_hasOf_13 : decode cX13_hasOf 13 = .ok (.iadd, 1) := by decide +kernel
theorem dX13_hasOf_14 : decode cX13_hasOf 14 = .ok (.iaload, 1) := by decide +kernel
theorem dX13_hasOf_15 : decode cX13_hasOf 15 = .ok (.if_icmp .ge 36, 3) := by decide +kernel
theorem dX13_hasOf_18 : decode cX13_hasOf 18 = .ok (.iload_n 3, 1) := by decide +kernel
theorem dX13_hasOf_19 : decode cX13_hasOf 19 = .ok (.aload_n 0, 1) := by decide +kernel
theorem dX13_hasOf_20 : decode cX13_hasOf 20 = .ok (.getfield 125, 3) := by decide +kernel
theorem dX13_hasOf_23 : decode cX13_hasOf 23 = .ok (.iload_n 1, 1) := by decide +kernel
theorem dX13_hasOf_24 : decode cX13_hasOf 24 = .ok (.bipush 11, 2) := by decide +kernel
theorem dX13_hasOf_26 : decode cX13_hasOf 26 = .ok (.iadd, 1) := by decide +kernel
theorem dX13_hasOf_27 : decode cX13_hasOf 27 = .ok (.iload 4, 2) := by decide +kernel
theorem dX13_hasOf_29 : decode cX13_hasOf 29 = .ok (.iadd, 1) := by decide +kernel
theorem dX13_hasOf_30 : decode cX13_hasOf 30 = .ok (.iaload, 1) := by decide +kernel
theorem dX13_hasOf_31 : decode cX13_hasOf 31 = .ok (.iload_n 2, 1) := by decide +kernel
theorem dX13_hasOf_32 : decode cX13_hasOf 32 = .ok (.if_icmp .ne 10, 3) := by decide +kernel
theorem dX13_hasOf_35 : decode cX13_hasOf 35 = .ok (.iconst 1, 1) := by decide +kernel
theorem dX13_hasOf_36 : decode cX13_hasOf 36 = .ok (.iload 4, 2) := by decide +kernel
theorem dX13_hasOf_38 : decode cX13_hasOf 38 = .ok (.ishl, 1) := by decide +kernel
theorem dX13_hasOf_39 : decode cX13_hasOf 39 = .ok (.goto 4, 3) := by decide +kernel
theorem dX13_hasOf_42 : decode cX13_hasOf 42 = .ok (.iconst 0, 1) := by decide +kernel
theorem dX13_hasOf_43 : decode cX13_hasOf 43 = .ok (.ior, 1) := by decide +kernel
theorem dX13_hasOf_44 : decode cX13_hasOf 44 = .ok (.istore_n 3, 1) := by decide +kernel
theorem dX13_hasOf_45 : decode cX13_hasOf 45 = .ok (.iinc 4 1, 3) := by decide +kernel
theorem dX13_hasOf_48 : decode cX13_hasOf 48 = .ok (.goto (-43), 3) := by decide +kernel
theorem dX13_hasOf_51 : decode cX13_hasOf 51 = .ok (.iload_n 3, 1) := by decide +kernel
theorem dX13_hasOf_52 : decode cX13_hasOf 52 = .ok (.ireturn, 1) := by decide +kernel
theorem dX13_thief_0 : decode cX13_thief 0 = .ok (.aload_n 0, 1) := by decide +kernel
theorem dX13_thief_1 : decode cX13_thief 1 = .ok (.iconst 0, 1) := by decide +kernel
theorem dX13_thief_2 : decode cX13_thief 2 = .ok (.putfield 1, 3) := by decide +kernel
theorem dX13_thief_5 : decode cX13_thief 5 = .ok (.aload_n 0, 1) := by decide +kernel
theorem dX13_thief_6 : decode cX13_thief 6 = .ok (.iload_n 1, 1) := by decide +kernel
theorem dX13_thief_7 : decode cX13_thief 7 = .ok (.invokevirtual 355, 3) := by decide +kernel
theorem dX13_thief_10 : decode cX13_thief 10 = .ok (.ifCond .eq 12, 3) := by decide +kernel
theorem dX13_thief_13 : decode cX13_thief 13 = .ok (.iload_n 2, 1) := by decide +kernel
theorem dX13_thief_14 : decode cX13_thief 14 = .ok (.iconst 0, 1) := by decide +kernel
theorem dX13_thief_15 : decode cX13_thief 15 = .ok (.iconst 4, 1) := by decide +kernel
theorem dX13_thief_16 : decode cX13_thief 16 = .ok (.invokestatic 231, 3) := by decide +kernel
theorem dX13_thief_19 : decode cX13_thief 19 = .ok (.ifCond .ne 7, 3) := by decide +kernel
theorem dX13_thief_22 : decode cX13_thief 22 = .ok (.iconst (-1), 1) := by decide +kernel
theorem dX13_thief_23 : decode cX13_thief 23 = .ok (.goto 40, 3) := by decide +kernel
theorem dX13_thief_26 : decode cX13_thief 26 = .ok (.iload_n 2, 1) := by decide +kernel
theorem dX13_thief_27 : decode cX13_thief 27 = .ok (.iconst 2, 1) := by decide +kernel
theorem dX13_thief_28 : decode cX13_thief 28 = .ok (.if_icmp .ne 15, 3) := by decide +kernel
theorem dX13_thief_31 : decode cX13_thief 31 = .ok (.aload_n 0, 1) := by decide +kernel
theorem dX13_thief_32 : decode cX13_thief 32 = .ok (.getfield 125, 3) := by decide +kernel
theorem dX13_thief_35 : decode cX13_thief 35 = .ok (.bipush 43, 2) := by decide +kernel
theorem dX13_thief_37 : decode cX13_thief 37 = .ok (.iload_n 1, 1) := by decide +kernel
theorem dX13_thief_38 : decode cX13_thief 38 = .ok (.iadd, 1) := by decide +kernel
theorem dX13_thief_39 : decode cX13_thief 39 = .ok (.iaload, 1) := by decide +kernel
theorem dX13_thief_40 : decode cX13_thief 40 = .ok (.goto 23, 3) := by decide +kernel
theorem dX13_thief_43 : decode cX13_thief 43 = .ok (.iload_n 2, 1) := by decide +kernel
theorem dX13_thief_44 : decode cX13_thief 44 = .ok (.iconst 4, 1) := by decide +kernel
theorem dX13_thief_45 : decode cX13_thief 45 = .ok (.if_icmp .ne 12, 3) := by decide +kernel
theorem dX13_thief_48 : decode cX13_thief 48 = .ok (.aload_n 0, 1) := by decide +kernel
theorem dX13_thief_49 : decode cX13_thief 49 = .ok (.iconst 0, 1) := by decide +kernel
theorem dX13_thief_50 : decode cX13_thief 50 = .ok (.iload_n 1, 1) := by decide +kernel
theorem dX13_thief_51 : decode cX13_thief 51 = .ok (.invokevirtual 358, 3) := by decide +kernel
theorem dX13_thief_54 : decode cX13_thief 54 = .ok (.goto 9, 3) := by decide +kernel
theorem dX13_thief_57 : decode cX13_thief 57 = .ok (.aload_n 0, 1) := by decide +kernel
theorem dX13_thief_58 : decode cX13_thief 58 = .ok (.iload_n 1, 1) := by decide +kernel
theorem dX13_thief_59 : decode cX13_thief 59 = .ok (.iload_n 2, 1) := by decide +kernel
theorem dX13_thief_60 : decode cX13_thief 60 = .ok (.invokevirtual 323, 3) := by decide +kernel
theorem dX13_thief_63 : decode cX13_thief 63 = .ok (.ireturn, 1) := by decide +kernel
theorem dX13_hasIt_0 : decode cX13_hasIt 0 = .ok (.aload_n 0, 1) := by decide +kernel
theorem dX13_hasIt_1 : decode cX13_hasIt 1 = .ok (.iload_n 1, 1) := by decide +kernel
theorem dX13_hasIt_2 : decode cX13_hasIt 2 = .ok (.iload_n 3, 1) := by decide +kernel
theorem dX13_hasIt_3 : decode cX13_hasIt 3 = .ok (.invokevirtual 345, 3) := by decide +kernel
theorem dX13_hasIt_6 : decode cX13_hasIt 6 = .ok (.ifCond .eq 22, 3) := by decide +kernel
theorem dX13_hasIt_9 : decode cX13_hasIt 9 = .ok (.aload_n 0, 1) := by decide +kernel
theorem dX13_hasIt_10 : decode cX13_hasIt 10 = .ok (.getfield 125, 3) := by decide +kernel
theorem dX13_hasIt_13 : decode cX13_hasIt 13 = .ok (.iload_n 1, 1) := by decide +kernel
theorem dX13_hasIt_14 : decode cX13_hasIt 14 = .ok (.bipush 11, 2) := by decide +kernel
theorem dX13_hasIt_16 : decode cX13_hasIt 16 = .ok (.iadd, 1) := by decide +kernel
theorem dX13_hasIt_17 : decode cX13_hasIt 17 = .ok (.iload_n 3, 1) := by decide +kernel
theorem dX13_hasIt_18 : decode cX13_hasIt 18 = .ok (.iadd, 1) := by decide +kernel
theorem dX13_hasIt_19 : decode cX13_hasIt 19 = .ok (.iaload, 1) := by decide +kernel
theorem dX13_hasIt_20 : decode cX13_hasIt 20 = .ok (.iload_n 2, 1) := by decide +kernel
theorem dX13_hasIt_21 : decode cX13_hasIt 21 = .ok (.if_icmp .ne 7, 3) := by decide +kernel
theorem dX13_hasIt_24 : decode cX13_hasIt 24 = .ok (.iconst 1, 1) := by decide +kernel
theorem dX13_hasIt_25 : decode cX13_hasIt 25 = .ok (.goto 4, 3) := by decide +kernel
theorem dX13_hasIt_28 : decode cX13_hasIt 28 = .ok (.iconst 0, 1) := by decide +kernel
theorem dX13_hasIt_29 : decode cX13_hasIt 29 = .ok (.ireturn, 1) := by decide +kernel
theorem dX13_maySteal_0 : decode cX13_maySteal 0 = .ok (.aload_n 0, 1) := by decide +kernel
theorem dX13_maySteal_1 : decode cX13_maySteal 1 = .ok (.iload_n 2, 1) := by decide +kernel
theorem dX13_maySteal_2 : decode cX13_maySteal 2 = .ok (.iconst 0, 1) := by decide +kernel
theorem dX13_maySteal_3 : decode cX13_maySteal 3 = .ok (.invokevirtual 323, 3) := by decide +kernel
theorem dX13_maySteal_6 : decode cX13_maySteal 6 = .ok (.istore 4, 2) := by decide +kernel
theorem dX13_maySteal_8 : decode cX13_maySteal 8 = .ok (.iload 4, 2) := by decide +kernel
theorem dX13_maySteal_10 : decode cX13_maySteal 10 = .ok (.iconst 1, 1) := by decide +kernel
theorem dX13_maySteal_11 : decode cX13_maySteal 11 = .ok (.if_icmp .eq 23, 3) := by decide +kernel
theorem dX13_maySteal_14 : decode cX13_maySteal 14 = .ok (.aload_n 0, 1) := by decide +kernel
theorem dX13_maySteal_15 : decode cX13_maySteal 15 = .ok (.iload_n 2, 1) := by decide +kernel
theorem dX13_maySteal_16 : decode cX13_maySteal 16 = .ok (.iconst 3, 1) := by decide +kernel
theorem dX13_maySteal_17 : decode cX13_maySteal 17 = .ok (.invokevirtual 323, 3) := by decide +kernel
theorem dX13_maySteal_20 : decode cX13_maySteal 20 = .ok (.aload_n 0, 1) := by decide +kernel
theorem dX13_maySteal_21 : decode cX13_maySteal 21 = .ok (.getfield 125, 3) := by decide +kernel
theorem dX13_maySteal_24 : decode cX13_maySteal 24 = .ok (.iload_n 1, 1) := by decide +kernel
theorem dX13_maySteal_25 : decode cX13_maySteal 25 = .ok (.iconst 1, 1) := by decide +kernel
theorem dX13_maySteal_26 : decode cX13_maySteal 26 = .ok (.iadd, 1) := by decide +kernel
theorem dX13_maySteal_27 : decode cX13_maySteal 27 = .ok (.iaload, 1) := by decide +kernel
theorem dX13_maySteal_28 : decode cX13_maySteal 28 = .ok (.iconst (-1), 1) := by decide +kernel
theorem dX13_maySteal_29 : decode cX13_maySteal 29 = .ok (.ixor, 1) := by decide +kernel
theorem dX13_maySteal_30 : decode cX13_maySteal 30 = .ok (.iand, 1) := by decide +kernel
theorem dX13_maySteal_31 : decode cX13_maySteal 31 = .ok (.ifCond .eq 7, 3) := by decide +kernel
theorem dX13_maySteal_34 : decode cX13_maySteal 34 = .ok (.iconst 1, 1) := by decide +kernel
theorem dX13_maySteal_35 : decode cX13_maySteal 35 = .ok (.goto 4, 3) := by decide +kernel
theorem dX13_maySteal_38 : decode cX13_maySteal 38 = .ok (.iconst 0, 1) := by decide +kernel
theorem dX13_maySteal_39 : decode cX13_maySteal 39 = .ok (.istore 5, 2) := by decide +kernel
theorem dX13_maySteal_41 : decode cX13_maySteal 41 = .ok (.iload 4, 2) := by decide +kernel
theorem dX13_maySteal_43 : decode cX13_maySteal 43 = .ok (.iconst 3, 1) := by decide +kernel
theorem dX13_maySteal_44 : decode cX13_maySteal 44 = .ok (.if_icmp .eq 22, 3) := by decide +kernel
theorem dX13_maySteal_47 : decode cX13_maySteal 47 = .ok (.iload 5, 2) := by decide +kernel
theorem dX13_maySteal_49 : decode cX13_maySteal 49 = .ok (.ifCond .eq 17, 3) := by decide +kernel
theorem dX13_maySteal_52 : decode cX13_maySteal 52 = .ok (.aload_n 0, 1) := by decide +kernel
theorem dX13_maySteal_53 : decode cX13_maySteal 53 = .ok (.iload_n 1, 1) := by decide +kernel
theorem dX13_maySteal_54 : decode cX13_maySteal 54 = .ok (.iload_n 2, 1) := by decide +kernel
theorem dX13_maySteal_55 : decode cX13_maySteal 55 = .ok (.iload_n 3, 1) := by decide +kernel
theorem dX13_maySteal_56 : decode cX13_maySteal 56 = .ok (.invokevirtual 361, 3) := by decide +kernel
theorem dX13_maySteal_59 : decode cX13_maySteal 59 = .ok (.ifCond .eq 7, 3) := by decide +kernel
theorem dX13_maySteal_62 : decode cX13_maySteal 62 = .ok (.iconst 1, 1) := by decide +kernel
theorem dX13_maySteal_63 : decode cX13_maySteal 63 = .ok (.goto 4, 3) := by decide +kernel
theorem dX13_maySteal_66 : decode cX13_maySteal 66 = .ok (.iconst 0, 1) := by decide +kernel
theorem dX13_maySteal_67 : decode cX13_maySteal 67 = .ok (.ireturn, 1) := by decide +kernel
theorem dX13_steals_0 : decode cX13_steals 0 = .ok (.aload_n 0, 1) := by decide +kernel
theorem dX13_steals_1 : decode cX13_steals 1 = .ok (.iload_n 1, 1) := by decide +kernel
theorem dX13_steals_2 : decode cX13_steals 2 = .ok (.invokevirtual 364, 3) := by decide +kernel
theorem dX13_steals_5 : decode cX13_steals 5 = .ok (.istore 4, 2) := by decide +kernel
theorem dX13_steals_7 : decode cX13_steals 7 = .ok (.aload_n 0, 1) := by decide +kernel
theorem dX13_steals_8 : decode cX13_steals 8 = .ok (.getfield 125, 3) := by decide +kernel
theorem dX13_steals_11 : decode cX13_steals 11 = .ok (.iload_n 1, 1) := by decide +kernel
theorem dX13_steals_12 : decode cX13_steals 12 = .ok (.bipush 11, 2) := by decide +kernel
theorem dX13_steals_14 : decode cX13_steals 14 = .ok (.iadd, 1) := by decide +kernel
theorem dX13_steals_15 : decode cX13_steals 15 = .ok (.iload_n 3, 1) := by decide +kernel
theorem dX13_steals_16 : decode cX13_steals 16 = .ok (.iadd, 1) := by decide +kernel
theorem dX13_steals_17 : decode cX13_steals 17 = .ok (.iconst 5, 1) := by decide +kernel
theorem dX13_steals_18 : decode cX13_steals 18 = .ok (.iastore, 1) := by decide +kernel
theorem dX13_steals_19 : decode cX13_steals 19 = .ok (.aload_n 0, 1) := by decide +kernel
theorem dX13_steals_20 : decode cX13_steals 20 = .ok (.getfield 125, 3) := by decide +kernel
theorem dX13_steals_23 : decode cX13_steals 23 = .ok (.iload_n 1, 1) := by decide +kernel
theorem dX13_steals_24 : decode cX13_steals 24 = .ok (.bipush 11, 2) := by decide +kernel
theorem dX13_steals_26 : decode cX13_steals 26 = .ok (.iadd, 1) := by decide +kernel
theorem dX13_steals_27 : decode cX13_steals 27 = .ok (.iload 4, 2) := by decide +kernel
theorem dX13_steals_29 : decode cX13_steals 29 = .ok (.iadd, 1) := by decide +kernel
theorem dX13_steals_30 : decode cX13_steals 30 = .ok (.iload_n 2, 1) := by decide +kernel
theorem dX13_steals_31 : decode cX13_steals 31 = .ok (.iastore, 1) := by decide +kernel
theorem dX13_steals_32 : decode cX13_steals 32 = .ok (.aload_n 0, 1) := by decide +kernel
theorem dX13_steals_33 : decode cX13_steals 33 = .ok (.getfield 125, 3) := by decide +kernel
theorem dX13_steals_36 : decode cX13_steals 36 = .ok (.iload_n 1, 1) := by decide +kernel
theorem dX13_steals_37 : decode cX13_steals 37 = .ok (.iconst 3, 1) := by decide +kernel
theorem dX13_steals_38 : decode cX13_steals 38 = .ok (.iadd, 1) := by decide +kernel
theorem dX13_steals_39 : decode cX13_steals 39 = .ok (.iload 4, 2) := by decide +kernel
theorem dX13_steals_41 : decode cX13_steals 41 = .ok (.iadd, 1) := by decide +kernel
theorem dX13_steals_42 : decode cX13_steals 42 = .ok (.iaload, 1) := by decide +kernel
theorem dX13_steals_43 : decode cX13_steals 43 = .ok (.istore 5, 2) := by decide +kernel
theorem dX13_steals_45 : decode cX13_steals 45 = .ok (.aload_n 0, 1) := by decide +kernel
theorem dX13_steals_46 : decode cX13_steals 46 = .ok (.iload_n 2, 1) := by decide +kernel
theorem dX13_steals_47 : decode cX13_steals 47 = .ok (.iconst 0, 1) := by decide +kernel
theorem dX13_steals_48 : decode cX13_steals 48 = .ok (.invokevirtual 323, 3) := by decide +kernel
theorem dX13_steals_51 : decode cX13_steals 51 = .ok (.iconst 2, 1) := by decide +kernel
theorem dX13_steals_52 : decode cX13_steals 52 = .ok (.if_icmp .ne 21, 3) := by decide +kernel
theorem dX13_steals_55 : decode cX13_steals 55 = .ok (.aload_n 0, 1) := by decide +kernel
theorem dX13_steals_56 : decode cX13_steals 56 = .ok (.getfield 125, 3) := by decide +kernel
theorem dX13_steals_59 : decode cX13_steals 59 = .ok (.iload_n 1, 1) := by decide +kernel
theorem dX13_steals_60 : decode cX13_steals 60 = .ok (.iconst 3, 1) := by decide +kernel
theorem dX13_steals_61 : decode cX13_steals 61 = .ok (.iadd, 1) := by decide +kernel
theorem dX13_steals_62 : decode cX13_steals 62 = .ok (.iload 4, 2) := by decide +kernel
theorem dX13_steals_64 : decode cX13_steals 64 = .ok (.iadd, 1) := by decide +kernel
theorem dX13_steals_65 : decode cX13_steals 65 = .ok (.iload 5, 2) := by decide +kernel
theorem dX13_steals_67 : decode cX13_steals 67 = .ok (.iload 5, 2) := by decide +kernel
theorem dX13_steals_69 : decode cX13_steals 69 = .ok (.iconst 1, 1) := by decide +kernel
theorem dX13_steals_70 : decode cX13_steals 70 = .ok (.isub, 1) := by decide +kernel
theorem dX13_steals_71 : decode cX13_steals 71 = .ok (.iand, 1) := by decide +kernel
theorem dX13_steals_72 : decode cX13_steals 72 = .ok (.iastore, 1) := by decide +kernel
theorem dX13_steals_73 : decode cX13_steals 73 = .ok (.iload 4, 2) := by decide +kernel
theorem dX13_steals_75 : decode cX13_steals 75 = .ok (.ireturn, 1) := by decide +kernel
theorem dX13_steal_0 : decode cX13_steal 0 = .ok (.aload_n 0, 1) := by decide +kernel
theorem dX13_steal_1 : decode cX13_steal 1 = .ok (.iconst 0, 1) := by decide +kernel
theorem dX13_steal_2 : decode cX13_steal 2 = .ok (.putfield 1, 3) := by decide +kernel
theorem dX13_steal_5 : decode cX13_steal 5 = .ok (.aload_n 0, 1) := by decide +kernel
theorem dX13_steal_6 : decode cX13_steal 6 = .ok (.iload_n 1, 1) := by decide +kernel
theorem dX13_steal_7 : decode cX13_steal 7 = .ok (.invokevirtual 355, 3) := by decide +kernel
theorem dX13_steal_10 : decode cX13_steal 10 = .ok (.ifCond .eq 13, 3) := by decide +kernel
theorem dX13_steal_13 : decode cX13_steal 13 = .ok (.aload_n 0, 1) := by decide +kernel
theorem dX13_steal_14 : decode cX13_steal 14 = .ok (.iconst 0, 1) := by decide +kernel
theorem dX13_steal_15 : decode cX13_steal 15 = .ok (.iload_n 1, 1) := by decide +kernel
theorem dX13_steal_16 : decode cX13_steal 16 = .ok (.iload_n 2, 1) := by decide +kernel
theorem dX13_steal_17 : decode cX13_steal 17 = .ok (.invokevirtual 367, 3) := by decide +kernel
theorem dX13_steal_20 : decode cX13_steal 20 = .ok (.ifCond .ne 5, 3) := by decide +kernel
theorem dX13_steal_23 : decode cX13_steal 23 = .ok (.iconst (-1), 1) := by decide +kernel
theorem dX13_steal_24 : decode cX13_steal 24 = .ok (.ireturn, 1) := by decide +kernel
theorem dX13_steal_25 : decode cX13_steal 25 = .ok (.aload_n 0, 1) := by decide +kernel
theorem dX13_steal_26 : decode cX13_steal 26 = .ok (.invokevirtual 370, 3) := by decide +kernel
theorem dX13_steal_29 : decode cX13_steal 29 = .ok (.aload_n 0, 1) := by decide +kernel
theorem dX13_steal_30 : decode cX13_steal 30 = .ok (.iconst 0, 1) := by decide +kernel
theorem dX13_steal_31 : decode cX13_steal 31 = .ok (.iload_n 1, 1) := by decide +kernel
theorem dX13_steal_32 : decode cX13_steal 32 = .ok (.iload_n 2, 1) := by decide +kernel
theorem dX13_steal_33 : decode cX13_steal 33 = .ok (.invokevirtual 373, 3) := by decide +kernel
theorem dX13_steal_36 : decode cX13_steal 36 = .ok (.ireturn, 1) := by decide +kernel
theorem dX13_mayPaint_0 : decode cX13_mayPaint 0 = .ok (.aload_n 0, 1) := by decide +kernel
theorem dX13_mayPaint_1 : decode cX13_mayPaint 1 = .ok (.iload_n 1, 1) := by decide +kernel
theorem dX13_mayPaint_2 : decode cX13_mayPaint 2 = .ok (.iload_n 3, 1) := by decide +kernel
theorem dX13_mayPaint_3 : decode cX13_mayPaint 3 = .ok (.invokevirtual 345, 3) := by decide +kernel
theorem dX13_mayPaint_6 : decode cX13_mayPaint 6 = .ok (.ifCond .eq 36, 3) := by decide +kernel
theorem dX13_mayPaint_9 : decode cX13_mayPaint 9 = .ok (.aload_n 0, 1) := by decide +kernel
theorem dX13_mayPaint_10 : decode cX13_mayPaint 10 = .ok (.getfield 125, 3) := by decide +kernel
theorem dX13_mayPaint_13 : decode cX13_mayPaint 13 = .ok (.iload_n 1, 1) := by decide +kernel
theorem dX13_mayPaint_14 : decode cX13_mayPaint 14 = .ok (.bipush 11, 2) := by decide +kernel
theorem dX13_mayPaint_16 : decode cX13_mayPaint 16 = .ok (.iadd, 1) := by decide +kernel
theorem dX13_mayPaint_17 : decode cX13_mayPaint 17 = .ok (.iload_n 3, 1) := by decide +kernel
theorem dX13_mayPaint_18 : decode cX13_mayPaint 18 = .ok (.iadd, 1) := by decide +kernel
theorem dX13_mayPaint_19 : decode cX13_mayPaint 19 = .ok (.iaload, 1) := by decide +kernel
theorem dX13_mayPaint_20 : decode cX13_mayPaint 20 = .ok (.aload_n 0, 1) := by decide +kernel
theorem dX13_mayPaint_21 : decode cX13_mayPaint 21 = .ok (.iload_n 2, 1) := by decide +kernel
theorem dX13_mayPaint_22 : decode cX13_mayPaint 22 = .ok (.iconst 0, 1) := by decide +kernel
theorem dX13_mayPaint_23 : decode cX13_mayPaint 23 = .ok (.invokevirtual 323, 3) := by decide +kernel
theorem dX13_mayPaint_26 : decode cX13_mayPaint 26 = .ok (.iconst 3, 1) := by decide +kernel
theorem dX13_mayPaint_27 : decode cX13_mayPaint 27 = .ok (.if_icmp .ne 7, 3) := by decide +kernel
theorem dX13_mayPaint_30 : decode cX13_mayPaint 30 = .ok (.iconst 5, 1) := by decide +kernel
theorem dX13_mayPaint_31 : decode cX13_mayPaint 31 = .ok (.goto 4, 3) := by decide +kernel
theorem dX13_mayPaint_34 : decode cX13_mayPaint 34 = .ok (.iload_n 2, 1) := by decide +kernel
theorem dX13_mayPaint_35 : decode cX13_mayPaint 35 = .ok (.if_icmp .ne 7, 3) := by decide +kernel
theorem dX13_mayPaint_38 : decode cX13_mayPaint 38 = .ok (.iconst 1, 1) := by decide +kernel
theorem dX13_mayPaint_39 : decode cX13_mayPaint 39 = .ok (.goto 4, 3) := by decide +kernel
theorem dX13_mayPaint_42 : decode cX13_mayPaint 42 = .ok (.iconst 0, 1) := by decide +kernel
theorem dX13_mayPaint_43 : decode cX13_mayPaint 43 = .ok (.istore 5, 2) := by decide +kernel
theorem dX13_mayPaint_45 : decode cX13_mayPaint 45 = .ok (.iload 5, 2) := by decide +kernel
theorem dX13_mayPaint_47 : decode cX13_mayPaint 47 = .ok (.ifCond .eq 37, 3) := by decide +kernel
theorem dX13_mayPaint_50 : decode cX13_mayPaint 50 = .ok (.aload_n 0, 1) := by decide +kernel
theorem dX13_mayPaint_51 : decode cX13_mayPaint 51 = .ok (.getfield 125, 3) := by decide +kernel
theorem dX13_mayPaint_54 : decode cX13_mayPaint 54 = .ok (.iload_n 1, 1) := by decide +kernel
theorem dX13_mayPaint_55 : decode cX13_mayPaint 55 = .ok (.iconst 2, 1) := by decide +kernel
theorem dX13_mayPaint_56 : decode cX13_mayPaint 56 = .ok (.iadd, 1) := by decide +kernel
theorem dX13_mayPaint_57 : decode cX13_mayPaint 57 = .ok (.iaload, 1) := by decide +kernel
theorem dX13_mayPaint_58 : decode cX13_mayPaint 58 = .ok (.bipush 8, 2) := by decide +kernel
theorem dX13_mayPaint_60 : decode cX13_mayPaint 60 = .ok (.if_icmp .ge 24, 3) := by decide +kernel
theorem dX13_mayPaint_63 : decode cX13_mayPaint 63 = .ok (.aload_n 0, 1) := by decide +kernel
theorem dX13_mayPaint_64 : decode cX13_mayPaint 64 = .ok (.iload_n 2, 1) := by decide +kernel
theorem dX13_mayPaint_65 : decode cX13_mayPaint 65 = .ok (.iconst 1, 1) := by decide +kernel
theorem dX13_mayPaint_66 : decode cX13_mayPaint 66 = .ok (.invokevirtual 323, 3) := by decide +kernel
theorem dX13_mayPaint_69 : decode cX13_mayPaint 69 = .ok (.aload_n 0, 1) := by decide +kernel
theorem dX13_mayPaint_70 : decode cX13_mayPaint 70 = .ok (.iload_n 1, 1) := by decide +kernel
theorem dX13_mayPaint_71 : decode cX13_mayPaint 71 = .ok (.iload_n 3, 1) := by decide +kernel
theorem dX13_mayPaint_72 : decode cX13_mayPaint 72 = .ok (.iload 4, 2) := by decide +kernel
theorem dX13_mayPaint_74 : decode cX13_mayPaint 74 = .ok (.invokevirtual 376, 3) := by decide +kernel
theorem dX13_mayPaint_77 : decode cX13_mayPaint 77 = .ok (.if_icmp .lt 7, 3) := by decide +kernel
theorem dX13_mayPaint_80 : decode cX13_mayPaint 80 = .ok (.iconst 1, 1) := by decide +kernel
theorem dX13_mayPaint_81 : decode cX13_mayPaint 81 = .ok (.goto 4, 3) := by decide +kernel
theorem dX13_mayPaint_84 : decode cX13_mayPaint 84 = .ok (.iconst 0, 1) := by decide +kernel
theorem dX13_mayPaint_85 : decode cX13_mayPaint 85 = .ok (.ireturn, 1) := by decide +kernel
theorem dX13_paints_0 : decode cX13_paints 0 = .ok (.aload_n 0, 1) := by decide +kernel
theorem dX13_paints_1 : decode cX13_paints 1 = .ok (.getfield 125, 3) := by decide +kernel
theorem dX13_paints_4 : decode cX13_paints 4 = .ok (.iload_n 1, 1) := by decide +kernel
theorem dX13_paints_5 : decode cX13_paints 5 = .ok (.iconst 2, 1) := by decide +kernel
theorem dX13_paints_6 : decode cX13_paints 6 = .ok (.iadd, 1) := by decide +kernel
theorem dX13_paints_7 : decode cX13_paints 7 = .ok (.iaload, 1) := by decide +kernel
theorem dX13_paints_8 : decode cX13_paints 8 = .ok (.istore 5, 2) := by decide +kernel
theorem dX13_paints_10 : decode cX13_paints 10 = .ok (.aload_n 0, 1) := by decide +kernel
theorem dX13_paints_11 : decode cX13_paints 11 = .ok (.getfield 125, 3) := by decide +kernel
theorem dX13_paints_14 : decode cX13_paints 14 = .ok (.iload_n 1, 1) := by decide +kernel
theorem dX13_paints_15 : decode cX13_paints 15 = .ok (.iconst 3, 1) := by decide +kernel
theorem dX13_paints_16 : decode cX13_paints 16 = .ok (.iadd, 1) := by decide +kernel
theorem dX13_paints_17 : decode cX13_paints 17 = .ok (.iload 5, 2) := by decide +kernel
theorem dX13_paints_19 : decode cX13_paints 19 = .ok (.iadd, 1) := by decide +kernel
theorem dX13_paints_20 : decode cX13_paints 20 = .ok (.aload_n 0, 1) := by decide +kernel
theorem dX13_paints_21 : decode cX13_paints 21 = .ok (.getfield 125, 3) := by decide +kernel
theorem dX13_paints_24 : decode cX13_paints 24 = .ok (.iload_n 1, 1) := by decide +kernel
theorem dX13_paints_25 : decode cX13_paints 25 = .ok (.iconst 3, 1) := by decide +kernel
theorem dX13_paints_26 : decode cX13_paints 26 = .ok (.iadd, 1) := by decide +kernel
theorem dX13_paints_27 : decode cX13_paints 27 = .ok (.iload_n 3, 1) := by decide +kernel
theorem dX13_paints_28 : decode cX13_paints 28 = .ok (.iadd, 1) := by decide +kernel
theorem dX13_paints_29 : decode cX13_paints 29 = .ok (.iaload, 1) := by decide +kernel
theorem dX13_paints_30 : decode cX13_paints 30 = .ok (.iconst 1, 1) := by decide +kernel
theorem dX13_paints_31 : decode cX13_paints 31 = .ok (.iload 4, 2) := by decide +kernel
theorem dX13_paints_33 : decode cX13_paints 33 = .ok (.ishl, 1) := by decide +kernel
theorem dX13_paints_34 : decode cX13_paints 34 = .ok (.ixor, 1) := by decide +kernel
theorem dX13_paints_35 : decode cX13_paints 35 = .ok (.iastore, 1) := by decide +kernel
theorem dX13_paints_36 : decode cX13_paints 36 = .ok (.aload_n 0, 1) := by decide +kernel
theorem dX13_paints_37 : decode cX13_paints 37 = .ok (.getfield 125, 3) := by decide +kernel
theorem dX13_paints_40 : decode cX13_paints 40 = .ok (.iload_n 1, 1) := by decide +kernel
theorem dX13_paints_41 : decode cX13_paints 41 = .ok (.bipush 11, 2) := by decide +kernel
theorem dX13_paints_43 : decode cX13_paints 43 = .ok (.iadd, 1) := by decide +kernel
theorem dX13_paints_44 : decode cX13_paints 44 = .ok (.iload 5, 2) := by decide +kernel
theorem dX13_paints_46 : decode cX13_paints 46 = .ok (.iadd, 1) := by decide +kernel
theorem dX13_paints_47 : decode cX13_paints 47 = .ok (.iload_n 2, 1) := by decide +kernel
theorem dX13_paints_48 : decode cX13_paints 48 = .ok (.iastore, 1) := by decide +kernel
theorem dX13_paints_49 : decode cX13_paints 49 = .ok (.aload_n 0, 1) := by decide +kernel
theorem dX13_paints_50 : decode cX13_paints 50 = .ok (.getfield 125, 3) := by decide +kernel
theorem dX13_paints_53 : decode cX13_paints 53 = .ok (.iload_n 1, 1) := by decide +kernel
theorem dX13_paints_54 : decode cX13_paints 54 = .ok (.bipush 19, 2) := by decide +kernel
theorem dX13_paints_56 : decode cX13_paints 56 = .ok (.iadd, 1) := by decide +kernel
theorem dX13_paints_57 : decode cX13_paints 57 = .ok (.iload 5, 2) := by decide +kernel
theorem dX13_paints_59 : decode cX13_paints 59 = .ok (.iadd, 1) := by decide +kernel
theorem dX13_paints_60 : decode cX13_paints 60 = .ok (.iconst 0, 1) := by decide +kernel
theorem dX13_paints_61 : decode cX13_paints 61 = .ok (.iastore, 1) := by decide +kernel
theorem dX13_paints_62 : decode cX13_paints 62 = .ok (.aload_n 0, 1) := by decide +kernel
theorem dX13_paints_63 : decode cX13_paints 63 = .ok (.getfield 125, 3) := by decide +kernel
theorem dX13_paints_66 : decode cX13_paints 66 = .ok (.iload_n 1, 1) := by decide +kernel
theorem dX13_paints_67 : decode cX13_paints 67 = .ok (.bipush 27, 2) := by decide +kernel
theorem dX13_paints_69 : decode cX13_paints 69 = .ok (.iadd, 1) := by decide +kernel
theorem dX13_paints_70 : decode cX13_paints 70 = .ok (.iload 5, 2) := by decide +kernel
theorem dX13_paints_72 : decode cX13_paints 72 = .ok (.iadd, 1) := by decide +kernel
theorem dX13_paints_73 : decode cX13_paints 73 = .ok (.iload_n 3, 1) := by decide +kernel
theorem dX13_paints_74 : decode cX13_paints 74 = .ok (.iastore, 1) := by decide +kernel
theorem dX13_paints_75 : decode cX13_paints 75 = .ok (.aload_n 0, 1) := by decide +kernel
theorem dX13_paints_76 : decode cX13_paints 76 = .ok (.getfield 125, 3) := by decide +kernel
theorem dX13_paints_79 : decode cX13_paints 79 = .ok (.iload_n 1, 1) := by decide +kernel
theorem dX13_paints_80 : decode cX13_paints 80 = .ok (.bipush 35, 2) := by decide +kernel
theorem dX13_paints_82 : decode cX13_paints 82 = .ok (.iadd, 1) := by decide +kernel
theorem dX13_paints_83 : decode cX13_paints 83 = .ok (.iload 5, 2) := by decide +kernel
theorem dX13_paints_85 : decode cX13_paints 85 = .ok (.iadd, 1) := by decide +kernel
theorem dX13_paints_86 : decode cX13_paints 86 = .ok (.iload 4, 2) := by decide +kernel
theorem dX13_paints_88 : decode cX13_paints 88 = .ok (.iastore, 1) := by decide +kernel
theorem dX13_paints_89 : decode cX13_paints 89 = .ok (.aload_n 0, 1) := by decide +kernel
theorem dX13_paints_90 : decode cX13_paints 90 = .ok (.getfield 125, 3) := by decide +kernel
theorem dX13_paints_93 : decode cX13_paints 93 = .ok (.iload_n 1, 1) := by decide +kernel
theorem dX13_paints_94 : decode cX13_paints 94 = .ok (.iconst 2, 1) := by decide +kernel
theorem dX13_paints_95 : decode cX13_paints 95 = .ok (.iadd, 1) := by decide +kernel
theorem dX13_paints_96 : decode cX13_paints 96 = .ok (.dup2, 1) := by decide +kernel
theorem dX13_paints_97 : decode cX13_paints 97 = .ok (.iaload, 1) := by decide +kernel
theorem dX13_paints_98 : decode cX13_paints 98 = .ok (.iconst 1, 1) := by decide +kernel
theorem dX13_paints_99 : decode cX13_paints 99 = .ok (.iadd, 1) := by decide +kernel
theorem dX13_paints_100 : decode cX13_paints 100 = .ok (.iastore, 1) := by decide +kernel
theorem dX13_paints_101 : decode cX13_paints 101 = .ok (.iload 5, 2) := by decide +kernel
theorem dX13_paints_103 : decode cX13_paints 103 = .ok (.ireturn, 1) := by decide +kernel
theorem dX13_paint_0 : decode cX13_paint 0 = .ok (.aload_n 0, 1) := by decide +kernel
theorem dX13_paint_1 : decode cX13_paint 1 = .ok (.iconst 0, 1) := by decide +kernel
theorem dX13_paint_2 : decode cX13_paint 2 = .ok (.putfield 1, 3) := by decide +kernel
theorem dX13_paint_5 : decode cX13_paint 5 = .ok (.aload_n 0, 1) := by decide +kernel
theorem dX13_paint_6 : decode cX13_paint 6 = .ok (.iload_n 1, 1) := by decide +kernel
theorem dX13_paint_7 : decode cX13_paint 7 = .ok (.invokevirtual 355, 3) := by decide +kernel
theorem dX13_paint_10 : decode cX13_paint 10 = .ok (.ifCond .eq 22, 3) := by decide +kernel
theorem dX13_paint_13 : decode cX13_paint 13 = .ok (.aload_n 0, 1) := by decide +kernel
theorem dX13_paint_14 : decode cX13_paint 14 = .ok (.iload_n 3, 1) := by decide +kernel
theorem dX13_paint_15 : decode cX13_paint 15 = .ok (.invokevirtual 379, 3) := by decide +kernel
theorem dX13_paint_18 : decode cX13_paint 18 = .ok (.ifCond .eq 14, 3) := by decide +kernel
theorem dX13_paint_21 : decode cX13_paint 21 = .ok (.aload_n 0, 1) := by decide +kernel
theorem dX13_paint_22 : decode cX13_paint 22 = .ok (.iconst 0, 1) := by decide +kernel
theorem dX13_paint_23 : decode cX13_paint 23 = .ok (.iload_n 1, 1) := by decide +kernel
theorem dX13_paint_24 : decode cX13_paint 24 = .ok (.iload_n 2, 1) := by decide +kernel
theorem dX13_paint_25 : decode cX13_paint 25 = .ok (.iload_n 3, 1) := by decide +kernel
theorem dX13_paint_26 : decode cX13_paint 26 = .ok (.invokevirtual 382, 3) := by decide +kernel
theorem dX13_paint_29 : decode cX13_paint 29 = .ok (.ifCond .ne 5, 3) := by decide +kernel
theorem dX13_paint_32 : decode cX13_paint 32 = .ok (.iconst (-1), 1) := by decide +kernel
theorem dX13_paint_33 : decode cX13_paint 33 = .ok (.ireturn, 1) := by decide +kernel
theorem dX13_paint_34 : decode cX13_paint 34 = .ok (.aload_n 0, 1) := by decide +kernel
theorem dX13_paint_35 : decode cX13_paint 35 = .ok (.invokevirtual 370, 3) := by decide +kernel
theorem dX13_paint_38 : decode cX13_paint 38 = .ok (.aload_n 0, 1) := by decide +kernel
theorem dX13_paint_39 : decode cX13_paint 39 = .ok (.iconst 0, 1) := by decide +kernel
theorem dX13_paint_40 : decode cX13_paint 40 = .ok (.iload_n 1, 1) := by decide +kernel
theorem dX13_paint_41 : decode cX13_paint 41 = .ok (.iload_n 2, 1) := by decide +kernel
theorem dX13_paint_42 : decode cX13_paint 42 = .ok (.iload_n 3, 1) := by decide +kernel
theorem dX13_paint_43 : decode cX13_paint 43 = .ok (.invokevirtual 386, 3) := by decide +kernel
theorem dX13_paint_46 : decode cX13_paint 46 = .ok (.ireturn, 1) := by decide +kernel
theorem dX13_sells_0 : decode cX13_sells 0 = .ok (.aload_n 0, 1) := by decide +kernel
theorem dX13_sells_1 : decode cX13_sells 1 = .ok (.iload_n 1, 1) := by decide +kernel
theorem dX13_sells_2 : decode cX13_sells 2 = .ok (.iload_n 3, 1) := by decide +kernel
theorem dX13_sells_3 : decode cX13_sells 3 = .ok (.invokevirtual 349, 3) := by decide +kernel
theorem dX13_sells_6 : decode cX13_sells 6 = .ok (.istore 4, 2) := by decide +kernel
theorem dX13_sells_8 : decode cX13_sells 8 = .ok (.aload_n 0, 1) := by decide +kernel
theorem dX13_sells_9 : decode cX13_sells 9 = .ok (.getfield 125, 3) := by decide +kernel
theorem dX13_sells_12 : decode cX13_sells 12 = .ok (.iload_n 1, 1) := by decide +kernel
theorem dX13_sells_13 : decode cX13_sells 13 = .ok (.bipush 11, 2) := by decide +kernel
theorem dX13_sells_15 : decode cX13_sells 15 = .ok (.iadd, 1) := by decide +kernel
theorem dX13_sells_16 : decode cX13_sells 16 = .ok (.iload_n 3, 1) := by decide +kernel
theorem dX13_sells_17 : decode cX13_sells 17 = .ok (.iadd, 1) := by decide +kernel
theorem dX13_sells_18 : decode cX13_sells 18 = .ok (.bipush 6, 2) := by decide +kernel
theorem dX13_sells_20 : decode cX13_sells 20 = .ok (.iastore, 1) := by decide +kernel
theorem dX13_sells_21 : decode cX13_sells 21 = .ok (.aload_n 0, 1) := by decide +kernel
theorem dX13_sells_22 : decode cX13_sells 22 = .ok (.getfield 125, 3) := by decide +kernel
theorem dX13_sells_25 : decode cX13_sells 25 = .ok (.iload_n 1, 1) := by decide +kernel
theorem dX13_sells_26 : decode cX13_sells 26 = .ok (.bipush 43, 2) := by decide +kernel
theorem dX13_sells_28 : decode cX13_sells 28 = .ok (.iadd, 1) := by decide +kernel
theorem dX13_sells_29 : decode cX13_sells 29 = .ok (.iload_n 2, 1) := by decide +kernel
theorem dX13_sells_30 : decode cX13_sells 30 = .ok (.iadd, 1) := by decide +kernel
theorem dX13_sells_31 : decode cX13_sells 31 = .ok (.dup2, 1) := by decide +kernel
theorem dX13_sells_32 : decode cX13_sells 32 = .ok (.iaload, 1) := by decide +kernel
theorem dX13_sells_33 : decode cX13_sells 33 = .ok (.iload 4, 2) := by decide +kernel
theorem dX13_sells_35 : decode cX13_sells 35 = .ok (.iadd, 1) := by decide +kernel
theorem dX13_sells_36 : decode cX13_sells 36 = .ok (.iastore, 1) := by decide +kernel
theorem dX13_sells_37 : decode cX13_sells 37 = .ok (.iload 4, 2) := by decide +kernel
theorem dX13_sells_39 : decode cX13_sells 39 = .ok (.ireturn, 1) := by decide +kernel
theorem dX13_sell_0 : decode cX13_sell 0 = .ok (.aload_n 0, 1) := by decide +kernel
theorem dX13_sell_1 : decode cX13_sell 1 = .ok (.iconst 0, 1) := by decide +kernel
theorem dX13_sell_2 : decode cX13_sell 2 = .ok (.putfield 1, 3) := by decide +kernel
theorem dX13_sell_5 : decode cX13_sell 5 = .ok (.aload_n 0, 1) := by decide +kernel
theorem dX13_sell_6 : decode cX13_sell 6 = .ok (.iload_n 1, 1) := by decide +kernel
theorem dX13_sell_7 : decode cX13_sell 7 = .ok (.invokevirtual 355, 3) := by decide +kernel
theorem dX13_sell_10 : decode cX13_sell 10 = .ok (.ifCond .eq 13, 3) := by decide +kernel
theorem dX13_sell_13 : decode cX13_sell 13 = .ok (.aload_n 0, 1) := by decide +kernel
theorem dX13_sell_14 : decode cX13_sell 14 = .ok (.iconst 0, 1) := by decide +kernel
theorem dX13_sell_15 : decode cX13_sell 15 = .ok (.iload_n 1, 1) := by decide +kernel
theorem dX13_sell_16 : decode cX13_sell 16 = .ok (.iload_n 2, 1) := by decide +kernel
theorem dX13_sell_17 : decode cX13_sell 17 = .ok (.invokevirtual 361, 3) := by decide +kernel
theorem dX13_sell_20 : decode cX13_sell 20 = .ok (.ifCond .ne 5, 3) := by decide +kernel
theorem dX13_sell_23 : decode cX13_sell 23 = .ok (.iconst (-1), 1) := by decide +kernel
theorem dX13_sell_24 : decode cX13_sell 24 = .ok (.ireturn, 1) := by decide +kernel
theorem dX13_sell_25 : decode cX13_sell 25 = .ok (.aload_n 0, 1) := by decide +kernel
theorem dX13_sell_26 : decode cX13_sell 26 = .ok (.invokevirtual 370, 3) := by decide +kernel
theorem dX13_sell_29 : decode cX13_sell 29 = .ok (.aload_n 0, 1) := by decide +kernel
theorem dX13_sell_30 : decode cX13_sell 30 = .ok (.iconst 0, 1) := by decide +kernel
theorem dX13_sell_31 : decode cX13_sell 31 = .ok (.iload_n 1, 1) := by decide +kernel
theorem dX13_sell_32 : decode cX13_sell 32 = .ok (.iload_n 2, 1) := by decide +kernel
theorem dX13_sell_33 : decode cX13_sell 33 = .ok (.invokevirtual 390, 3) := by decide +kernel
theorem dX13_sell_36 : decode cX13_sell 36 = .ok (.ireturn, 1) := by decide +kernel
theorem dX13_guard_0 : decode cX13_guard 0 = .ok (.aload_n 0, 1) := by decide +kernel
theorem dX13_guard_1 : decode cX13_guard 1 = .ok (.iconst 0, 1) := by decide +kernel
theorem dX13_guard_2 : decode cX13_guard 2 = .ok (.putfield 1, 3) := by decide +kernel
theorem dX13_guard_5 : decode cX13_guard 5 = .ok (.iload_n 1, 1) := by decide +kernel
theorem dX13_guard_6 : decode cX13_guard 6 = .ok (.iconst 0, 1) := by decide +kernel
theorem dX13_guard_7 : decode cX13_guard 7 = .ok (.bipush 23, 2) := by decide +kernel
theorem dX13_guard_9 : decode cX13_guard 9 = .ok (.invokestatic 231, 3) := by decide +kernel
theorem dX13_guard_12 : decode cX13_guard 12 = .ok (.ifCond .eq 17, 3) := by decide +kernel
theorem dX13_guard_15 : decode cX13_guard 15 = .ok (.aload_n 0, 1) := by decide +kernel
theorem dX13_guard_16 : decode cX13_guard 16 = .ok (.getfield 125, 3) := by decide +kernel
theorem dX13_guard_19 : decode cX13_guard 19 = .ok (.iconst 1, 1) := by decide +kernel
theorem dX13_guard_20 : decode cX13_guard 20 = .ok (.iaload, 1) := by decide +kernel
theorem dX13_guard_21 : decode cX13_guard 21 = .ok (.iload_n 1, 1) := by decide +kernel
theorem dX13_guard_22 : decode cX13_guard 22 = .ok (.ishr, 1) := by decide +kernel
theorem dX13_guard_23 : decode cX13_guard 23 = .ok (.iconst 1, 1) := by decide +kernel
theorem dX13_guard_24 : decode cX13_guard 24 = .ok (.iand, 1) := by decide +kernel
theorem dX13_guard_25 : decode cX13_guard 25 = .ok (.iconst 1, 1) := by decide +kernel
theorem dX13_guard_26 : decode cX13_guard 26 = .ok (.if_icmp .ne 5, 3) := by decide +kernel
theorem dX13_guard_29 : decode cX13_guard 29 = .ok (.iconst 0, 1) := by decide +kernel
theorem dX13_guard_30 : decode cX13_guard 30 = .ok (.ireturn, 1) := by decide +kernel
theorem dX13_guard_31 : decode cX13_guard 31 = .ok (.aload_n 0, 1) := by decide +kernel
theorem dX13_guard_32 : decode cX13_guard 32 = .ok (.invokevirtual 370, 3) := by decide +kernel
theorem dX13_guard_35 : decode cX13_guard 35 = .ok (.aload_n 0, 1) := by decide +kernel
theorem dX13_guard_36 : decode cX13_guard 36 = .ok (.getfield 125, 3) := by decide +kernel
theorem dX13_guard_39 : decode cX13_guard 39 = .ok (.iconst 1, 1) := by decide +kernel
theorem dX13_guard_40 : decode cX13_guard 40 = .ok (.dup2, 1) := by decide +kernel
theorem dX13_guard_41 : decode cX13_guard 41 = .ok (.iaload, 1) := by decide +kernel
theorem dX13_guard_42 : decode cX13_guard 42 = .ok (.iconst 1, 1) := by decide +kernel
theorem dX13_guard_43 : decode cX13_guard 43 = .ok (.iload_n 1, 1) := by decide +kernel
theorem dX13_guard_44 : decode cX13_guard 44 = .ok (.ishl, 1) := by decide +kernel
theorem dX13_guard_45 : decode cX13_guard 45 = .ok (.ior, 1) := by decide +kernel
theorem dX13_guard_46 : decode cX13_guard 46 = .ok (.iastore, 1) := by decide +kernel
theorem dX13_guard_47 : decode cX13_guard 47 = .ok (.iconst 1, 1) := by decide +kernel
theorem dX13_guard_48 : decode cX13_guard 48 = .ok (.ireturn, 1) := by decide +kernel
theorem dX13_passes_0 : decode cX13_passes 0 = .ok (.aload_n 0, 1) := by decide +kernel
theorem dX13_passes_1 : decode cX13_passes 1 = .ok (.getfield 125, 3) := by decide +kernel
theorem dX13_passes_4 : decode cX13_passes 4 = .ok (.iload_n 1, 1) := by decide +kernel
theorem dX13_passes_5 : decode cX13_passes 5 = .ok (.bipush 19, 2) := by decide +kernel
theorem dX13_passes_7 : decode cX13_passes 7 = .ok (.iadd, 1) := by decide +kernel
theorem dX13_passes_8 : decode cX13_passes 8 = .ok (.aload_n 0, 1) := by decide +kernel
theorem dX13_passes_9 : decode cX13_passes 9 = .ok (.iload_n 1, 1) := by decide +kernel
theorem dX13_passes_10 : decode cX13_passes 10 = .ok (.invokevirtual 364, 3) := by decide +kernel
theorem dX13_passes_13 : decode cX13_passes 13 = .ok (.iadd, 1) := by decide +kernel
theorem dX13_passes_14 : decode cX13_passes 14 = .ok (.dup2, 1) := by decide +kernel
theorem dX13_passes_15 : decode cX13_passes 15 = .ok (.iaload, 1) := by decide +kernel
theorem dX13_passes_16 : decode cX13_passes 16 = .ok (.iconst 1, 1) := by decide +kernel
theorem dX13_passes_17 : decode cX13_passes 17 = .ok (.iadd, 1) := by decide +kernel
theorem dX13_passes_18 : decode cX13_passes 18 = .ok (.iastore, 1) := by decide +kernel
theorem dX13_passes_19 : decode cX13_passes 19 = .ok (.aload_n 0, 1) := by decide +kernel
theorem dX13_passes_20 : decode cX13_passes 20 = .ok (.getfield 125, 3) := by decide +kernel
theorem dX13_passes_23 : decode cX13_passes 23 = .ok (.iload_n 1, 1) := by decide +kernel
theorem dX13_passes_24 : decode cX13_passes 24 = .ok (.iconst 1, 1) := by decide +kernel
theorem dX13_passes_25 : decode cX13_passes 25 = .ok (.iadd, 1) := by decide +kernel
theorem dX13_passes_26 : decode cX13_passes 26 = .ok (.iconst 0, 1) := by decide +kernel
theorem dX13_passes_27 : decode cX13_passes 27 = .ok (.iastore, 1) := by decide +kernel
theorem dX13_passes_28 : decode cX13_passes 28 = .ok (.aload_n 0, 1) := by decide +kernel
theorem dX13_passes_29 : decode cX13_passes 29 = .ok (.getfield 125, 3) := by decide +kernel
theorem dX13_passes_32 : decode cX13_passes 32 = .ok (.iload_n 1, 1) := by decide +kernel
theorem dX13_passes_33 : decode cX13_passes 33 = .ok (.iconst 0, 1) := by decide +kernel
theorem dX13_passes_34 : decode cX13_passes 34 = .ok (.iadd, 1) := by decide +kernel
theorem dX13_passes_35 : decode cX13_passes 35 = .ok (.dup2, 1) := by decide +kernel
theorem dX13_passes_36 : decode cX13_passes 36 = .ok (.iaload, 1) := by decide +kernel
theorem dX13_passes_37 : decode cX13_passes 37 = .ok (.iconst 1, 1) := by decide +kernel
theorem dX13_passes_38 : decode cX13_passes 38 = .ok (.iadd, 1) := by decide +kernel
theorem dX13_passes_39 : decode cX13_passes 39 = .ok (.iastore, 1) := by decide +kernel
theorem dX13_passes_40 : decode cX13_passes 40 = .ok (.return_, 1) := by decide +kernel
theorem dX13_night_0 : decode cX13_night 0 = .ok (.aload_n 0, 1) := by decide +kernel
theorem dX13_night_1 : decode cX13_night 1 = .ok (.iconst 0, 1) := by decide +kernel
theorem dX13_night_2 : decode cX13_night 2 = .ok (.putfield 1, 3) := by decide +kernel
theorem dX13_night_5 : decode cX13_night 5 = .ok (.aload_n 0, 1) := by decide +kernel
theorem dX13_night_6 : decode cX13_night 6 = .ok (.invokevirtual 370, 3) := by decide +kernel
theorem dX13_night_9 : decode cX13_night 9 = .ok (.aload_n 0, 1) := by decide +kernel
theorem dX13_night_10 : decode cX13_night 10 = .ok (.iconst 0, 1) := by decide +kernel
theorem dX13_night_11 : decode cX13_night 11 = .ok (.invokevirtual 393, 3) := by decide +kernel
theorem dX13_night_14 : decode cX13_night 14 = .ok (.aload_n 0, 1) := by decide +kernel
theorem dX13_night_15 : decode cX13_night 15 = .ok (.getfield 125, 3) := by decide +kernel
theorem dX13_night_18 : decode cX13_night 18 = .ok (.iconst 0, 1) := by decide +kernel
theorem dX13_night_19 : decode cX13_night 19 = .ok (.iaload, 1) := by decide +kernel
theorem dX13_night_20 : decode cX13_night 20 = .ok (.ireturn, 1) := by decide +kernel
theorem dX13_undo_0 : decode cX13_undo 0 = .ok (.aload_n 0, 1) := by decide +kernel
theorem dX13_undo_1 : decode cX13_undo 1 = .ok (.iconst 0, 1) := by decide +kernel
theorem dX13_undo_2 : decode cX13_undo 2 = .ok (.putfield 1, 3) := by decide +kernel
theorem dX13_undo_5 : decode cX13_undo 5 = .ok (.aload_n 0, 1) := by decide +kernel
theorem dX13_undo_6 : decode cX13_undo 6 = .ok (.getfield 329, 3) := by decide +kernel
theorem dX13_undo_9 : decode cX13_undo 9 = .ok (.ifCond .ne 5, 3) := by decide +kernel
theorem dX13_undo_12 : decode cX13_undo 12 = .ok (.iconst 0, 1) := by decide +kernel
theorem dX13_undo_13 : decode cX13_undo 13 = .ok (.ireturn, 1) := by decide +kernel
theorem dX13_undo_14 : decode cX13_undo 14 = .ok (.aload_n 0, 1) := by decide +kernel
theorem dX13_undo_15 : decode cX13_undo 15 = .ok (.dup, 1) := by decide +kernel
theorem dX13_undo_16 : decode cX13_undo 16 = .ok (.getfield 329, 3) := by decide +kernel
theorem dX13_undo_19 : decode cX13_undo 19 = .ok (.iconst 1, 1) := by decide +kernel
theorem dX13_undo_20 : decode cX13_undo 20 = .ok (.isub, 1) := by decide +kernel
theorem dX13_undo_21 : decode cX13_undo 21 = .ok (.putfield 329, 3) := by decide +kernel
theorem dX13_undo_24 : decode cX13_undo 24 = .ok (.aload_n 0, 1) := by decide +kernel
theorem dX13_undo_25 : decode cX13_undo 25 = .ok (.bipush 66, 2) := by decide +kernel
theorem dX13_undo_27 : decode cX13_undo 27 = .ok (.iconst 5, 1) := by decide +kernel
theorem dX13_undo_28 : decode cX13_undo 28 = .ok (.aload_n 0, 1) := by decide +kernel
theorem dX13_undo_29 : decode cX13_undo 29 = .ok (.getfield 329, 3) := by decide +kernel
theorem dX13_undo_32 : decode cX13_undo 32 = .ok (.iadd, 1) := by decide +kernel
theorem dX13_undo_33 : decode cX13_undo 33 = .ok (.imul, 1) := by decide +kernel
theorem dX13_undo_34 : decode cX13_undo 34 = .ok (.iconst 0, 1) := by decide +kernel
theorem dX13_undo_35 : decode cX13_undo 35 = .ok (.bipush 48, 2) := by decide +kernel
theorem dX13_undo_37 : decode cX13_undo 37 = .ok (.invokevirtual 332, 3) := by decide +kernel
theorem dX13_undo_40 : decode cX13_undo 40 = .ok (.iconst 1, 1) := by decide +kernel
theorem dX13_undo_41 : decode cX13_undo 41 = .ok (.ireturn, 1) := by decide +kernel
theorem dX13_does_0 : decode cX13_does 0 = .ok (.aload_n 0, 1) := by decide +kernel
theorem dX13_does_1 : decode cX13_does 1 = .ok (.getfield 116, 3) := by decide +kernel
theorem dX13_does_4 : decode cX13_does 4 = .ok (.iload_n 1, 1) := by decide +kernel
theorem dX13_does_5 : decode cX13_does 5 = .ok (.iaload, 1) := by decide +kernel
theorem dX13_does_6 : decode cX13_does 6 = .ok (.istore_n 2, 1) := by decide +kernel
theorem dX13_does_7 : decode cX13_does 7 = .ok (.aload_n 0, 1) := by decide +kernel
theorem dX13_does_8 : decode cX13_does 8 = .ok (.getfield 116, 3) := by decide +kernel
theorem dX13_does_11 : decode cX13_does 11 = .ok (.iload_n 1, 1) := by decide +kernel
theorem dX13_does_12 : decode cX13_does 12 = .ok (.iconst 1, 1) := by decide +kernel
theorem dX13_does_13 : decode cX13_does 13 = .ok (.iadd, 1) := by decide +kernel
theorem dX13_does_14 : decode cX13_does 14 = .ok (.iaload, 1) := by decide +kernel
theorem dX13_does_15 : decode cX13_does 15 = .ok (.istore_n 3, 1) := by decide +kernel
theorem dX13_does_16 : decode cX13_does 16 = .ok (.aload_n 0, 1) := by decide +kernel
theorem dX13_does_17 : decode cX13_does 17 = .ok (.getfield 116, 3) := by decide +kernel
theorem dX13_does_20 : decode cX13_does 20 = .ok (.iload_n 1, 1) := by decide +kernel
theorem dX13_does_21 : decode cX13_does 21 = .ok (.iconst 2, 1) := by decide +kernel
theorem dX13_does_22 : decode cX13_does 22 = .ok (.iadd, 1) := by decide +kernel
theorem dX13_does_23 : decode cX13_does 23 = .ok (.iaload, 1) := by decide +kernel
theorem dX13_does_24 : decode cX13_does 24 = .ok (.istore 4, 2) := by decide +kernel
theorem dX13_does_26 : decode cX13_does 26 = .ok (.aload_n 0, 1) := by decide +kernel
theorem dX13_does_27 : decode cX13_does 27 = .ok (.getfield 116, 3) := by decide +kernel
theorem dX13_does_30 : decode cX13_does 30 = .ok (.iload_n 1, 1) := by decide +kernel
theorem dX13_does_31 : decode cX13_does 31 = .ok (.iconst 3, 1) := by decide +kernel
theorem dX13_does_32 : decode cX13_does 32 = .ok (.iadd, 1) := by decide +kernel
theorem dX13_does_33 : decode cX13_does 33 = .ok (.iaload, 1) := by decide +kernel
theorem dX13_does_34 : decode cX13_does 34 = .ok (.istore 5, 2) := by decide +kernel
theorem dX13_does_36 : decode cX13_does 36 = .ok (.iload_n 2, 1) := by decide +kernel
theorem dX13_does_37 : decode cX13_does 37 = .ok (.iconst 4, 1) := by decide +kernel
theorem dX13_does_38 : decode cX13_does 38 = .ok (.if_icmp .ne 7, 3) := by decide +kernel
theorem dX13_does_41 : decode cX13_does 41 = .ok (.iconst 1, 1) := by decide +kernel
theorem dX13_does_42 : decode cX13_does 42 = .ok (.goto 4, 3) := by decide +kernel
theorem dX13_does_45 : decode cX13_does 45 = .ok (.iconst 0, 1) := by decide +kernel
theorem dX13_does_46 : decode cX13_does 46 = .ok (.istore 6, 2) := by decide +kernel
theorem dX13_does_48 : decode cX13_does 48 = .ok (.iload_n 2, 1) := by decide +kernel
theorem dX13_does_49 : decode cX13_does 49 = .ok (.ifCond .ne 18, 3) := by decide +kernel
theorem dX13_does_52 : decode cX13_does 52 = .ok (.aload_n 0, 1) := by decide +kernel
theorem dX13_does_53 : decode cX13_does 53 = .ok (.sipush 1386, 3) := by decide +kernel
theorem dX13_does_56 : decode cX13_does 56 = .ok (.iload_n 3, 1) := by decide +kernel
theorem dX13_does_57 : decode cX13_does 57 = .ok (.iload 4, 2) := by decide +kernel
theorem dX13_does_59 : decode cX13_does 59 = .ok (.invokevirtual 367, 3) := by decide +kernel
theorem dX13_does_62 : decode cX13_does 62 = .ok (.istore 6, 2) := by decide +kernel
theorem dX13_does_64 : decode cX13_does 64 = .ok (.goto 72, 3) := by decide +kernel
theorem dX13_does_67 : decode cX13_does 67 = .ok (.iload_n 2, 1) := by decide +kernel
theorem dX13_does_68 : decode cX13_does 68 = .ok (.iconst 1, 1) := by decide +kernel
theorem dX13_does_69 : decode cX13_does 69 = .ok (.if_icmp .ne 20, 3) := by decide +kernel
theorem dX13_does_72 : decode cX13_does 72 = .ok (.aload_n 0, 1) := by decide +kernel
theorem dX13_does_73 : decode cX13_does 73 = .ok (.sipush 1386, 3) := by decide +kernel
theorem dX13_does_76 : decode cX13_does 76 = .ok (.iload_n 3, 1) := by decide +kernel
theorem dX13_does_77 : decode cX13_does 77 = .ok (.iload 4, 2) := by decide +kernel
theorem dX13_does_79 : decode cX13_does 79 = .ok (.iload 5, 2) := by decide +kernel
theorem dX13_does_81 : decode cX13_does 81 = .ok (.invokevirtual 382, 3) := by decide +kernel
theorem dX13_does_84 : decode cX13_does 84 = .ok (.istore 6, 2) := by decide +kernel
theorem dX13_does_86 : decode cX13_does 86 = .ok (.goto 50, 3) := by decide +kernel
theorem dX13_does_89 : decode cX13_does 89 = .ok (.iload_n 2, 1) := by decide +kernel
theorem dX13_does_90 : decode cX13_does 90 = .ok (.iconst 2, 1) := by decide +kernel
theorem dX13_does_91 : decode cX13_does 91 = .ok (.if_icmp .ne 18, 3) := by decide +kernel
theorem dX13_does_94 : decode cX13_does 94 = .ok (.aload_n 0, 1) := by decide +kernel
theorem dX13_does_95 : decode cX13_does 95 = .ok (.sipush 1386, 3) := by decide +kernel
theorem dX13_does_98 : decode cX13_does 98 = .ok (.iload_n 3, 1) := by decide +kernel
theorem dX13_does_99 : decode cX13_does 99 = .ok (.iload 4, 2) := by decide +kernel
theorem dX13_does_101 : decode cX13_does 101 = .ok (.invokevirtual 361, 3) := by decide +kernel
theorem dX13_does_104 : decode cX13_does 104 = .ok (.istore 6, 2) := by decide +kernel
theorem dX13_does_106 : decode cX13_does 106 = .ok (.goto 30, 3) := by decide +kernel
theorem dX13_does_109 : decode cX13_does 109 = .ok (.iload_n 2, 1) := by decide +kernel
theorem dX13_does_110 : decode cX13_does 110 = .ok (.iconst 3, 1) := by decide +kernel
theorem dX13_does_111 : decode cX13_does 111 = .ok (.if_icmp .ne 25, 3) := by decide +kernel
theorem dX13_does_114 : decode cX13_does 114 = .ok (.aload_n 0, 1) := by decide +kernel
theorem dX13_does_115 : decode cX13_does 115 = .ok (.getfield 125, 3) := by decide +kernel
theorem dX13_does_118 : decode cX13_does 118 = .ok (.sipush 1387, 3) := by decide +kernel
theorem dX13_does_121 : decode cX13_does 121 = .ok (.iaload, 1) := by decide +kernel
theorem dX13_does_122 : decode cX13_does 122 = .ok (.iload_n 3, 1) := by decide +kernel
theorem dX13_does_123 : decode cX13_does 123 = .ok (.ishr, 1) := by decide +kernel
theorem dX13_does_124 : decode cX13_does 124 = .ok (.iconst 1, 1) := by decide +kernel
theorem dX13_does_125 : decode cX13_does 125 = .ok (.iand, 1) := by decide +kernel
theorem dX13_does_126 : decode cX13_does 126 = .ok (.ifCond .ne 7, 3) := by decide +kernel
theorem dX13_does_129 : decode cX13_does 129 = .ok (.iconst 1, 1) := by decide +kernel
theorem dX13_does_130 : decode cX13_does 130 = .ok (.goto 4, 3) := by decide +kernel
theorem dX13_does_133 : decode cX13_does 133 = .ok (.iconst 0, 1) := by decide +kernel
theorem dX13_does_134 : decode cX13_does 134 = .ok (.istore 6, 2) := by decide +kernel
theorem dX13_does_136 : decode cX13_does 136 = .ok (.iload 6, 2) := by decide +kernel
theorem dX13_does_138 : decode cX13_does 138 = .ok (.ifCond .eq 13, 3) := by decide +kernel
theorem dX13_does_141 : decode cX13_does 141 = .ok (.aload_n 0, 1) := by decide +kernel
theorem dX13_does_142 : decode cX13_does 142 = .ok (.iload_n 2, 1) := by decide +kernel
theorem dX13_does_143 : decode cX13_does 143 = .ok (.iload_n 3, 1) := by decide +kernel
theorem dX13_does_144 : decode cX13_does 144 = .ok (.iload 4, 2) := by decide +kernel
theorem dX13_does_146 : decode cX13_does 146 = .ok (.iload 5, 2) := by decide +kernel
theorem dX13_does_148 : decode cX13_does 148 = .ok (.invokevirtual 396, 3) := by decide +kernel
theorem dX13_does_151 : decode cX13_does 151 = .ok (.iload 6, 2) := by decide +kernel
theorem dX13_does_153 : decode cX13_does 153 = .ok (.ireturn, 1) := by decide +kernel
theorem dX13_doesSo_0 : decode cX13_doesSo 0 = .ok (.iload_n 1, 1) := by decide +kernel
theorem dX13_doesSo_1 : decode cX13_doesSo 1 = .ok (.ifCond .ne 16, 3) := by decide +kernel
theorem dX13_doesSo_4 : decode cX13_doesSo 4 = .ok (.aload_n 0, 1) := by decide +kernel
theorem dX13_doesSo_5 : decode cX13_doesSo 5 = .ok (.sipush 1386, 3) := by decide +kernel
theorem dX13_doesSo_8 : decode cX13_doesSo 8 = .ok (.iload_n 2, 1) := by decide +kernel
theorem dX13_doesSo_9 : decode cX13_doesSo 9 = .ok (.iload_n 3, 1) := by decide +kernel
theorem dX13_doesSo_10 : decode cX13_doesSo 10 = .ok (.invokevirtual 373, 3) := by decide +kernel
theorem dX13_doesSo_13 : decode cX13_doesSo 13 = .ok (.pop, 1) := by decide +kernel
theorem dX13_doesSo_14 : decode cX13_doesSo 14 = .ok (.goto 70, 3) := by decide +kernel
theorem dX13_doesSo_17 : decode cX13_doesSo 17 = .ok (.iload_n 1, 1) := by decide +kernel
theorem dX13_doesSo_18 : decode cX13_doesSo 18 = .ok (.iconst 1, 1) := by decide +kernel
theorem dX13_doesSo_19 : decode cX13_doesSo 19 = .ok (.if_icmp .ne 18, 3) := by decide +kernel
theorem dX13_doesSo_22 : decode cX13_doesSo 22 = .ok (.aload_n 0, 1) := by decide +kernel
theorem dX13_doesSo_23 : decode cX13_doesSo 23 = .ok (.sipush 1386, 3) := by decide +kernel
theorem dX13_doesSo_26 : decode cX13_doesSo 26 = .ok (.iload_n 2, 1) := by decide +kernel
theorem dX13_doesSo_27 : decode cX13_doesSo 27 = .ok (.iload_n 3, 1) := by decide +kernel
theorem dX13_doesSo_28 : decode cX13_doesSo 28 = .ok (.iload 4, 2) := by decide +kernel
theorem dX13_doesSo_30 : decode cX13_doesSo 30 = .ok (.invokevirtual 386, 3) := by decide +kernel
theorem dX13_doesSo_33 : decode cX13_doesSo 33 = .ok (.pop, 1) := by decide +kernel
theorem dX13_doesSo_34 : decode cX13_doesSo 34 = .ok (.goto 50, 3) := by decide +kernel
theorem dX13_doesSo_37 : decode cX13_doesSo 37 = .ok (.iload_n 1, 1) := by decide +kernel
theorem dX13_doesSo_38 : decode cX13_doesSo 38 = .ok (.iconst 2, 1) := by decide +kernel
theorem dX13_doesSo_39 : decode cX13_doesSo 39 = .ok (.if_icmp .ne 16, 3) := by decide +kernel
theorem dX13_doesSo_42 : decode cX13_doesSo 42 = .ok (.aload_n 0, 1) := by decide +kernel
theorem dX13_doesSo_43 : decode cX13_doesSo 43 = .ok (.sipush 1386, 3) := by decide +kernel
theorem dX13_doesSo_46 : decode cX13_doesSo 46 = .ok (.iload_n 2, 1) := by decide +kernel
theorem dX13_doesSo_47 : decode cX13_doesSo 47 = .ok (.iload_n 3, 1) := by decide +kernel
theorem dX13_doesSo_48 : decode cX13_doesSo 48 = .ok (.invokevirtual 390, 3) := by decide +kernel
theorem dX13_doesSo_51 : decode cX13_doesSo 51 = .ok (.pop, 1) := by decide +kernel
theorem dX13_doesSo_52 : decode cX13_doesSo 52 = .ok (.goto 32, 3) := by decide +kernel
theorem dX13_doesSo_55 : decode cX13_doesSo 55 = .ok (.iload_n 1, 1) := by decide +kernel
theorem dX13_doesSo_56 : decode cX13_doesSo 56 = .ok (.iconst 3, 1) := by decide +kernel
theorem dX13_doesSo_57 : decode cX13_doesSo 57 = .ok (.if_icmp .ne 20, 3) := by decide +kernel
theorem dX13_doesSo_60 : decode cX13_doesSo 60 = .ok (.aload_n 0, 1) := by decide +kernel
theorem dX13_doesSo_61 : decode cX13_doesSo 61 = .ok (.getfield 125, 3) := by decide +kernel
theorem dX13_doesSo_64 : decode cX13_doesSo 64 = .ok (.sipush 1387, 3) := by decide +kernel
theorem dX13_doesSo_67 : decode cX13_doesSo 67 = .ok (.dup2, 1) := by decide +kernel
theorem dX13_doesSo_68 : decode cX13_doesSo 68 = .ok (.iaload, 1) := by decide +kernel
theorem dX13_doesSo_69 : decode cX13_doesSo 69 = .ok (.iconst 1, 1) := by decide +kernel
theorem dX13_doesSo_70 : decode cX13_doesSo 70 = .ok (.iload_n 2, 1) := by decide +kernel
theorem dX13_doesSo_71 : decode cX13_doesSo 71 = .ok (.ishl, 1) := by decide +kernel
theorem dX13_doesSo_72 : decode cX13_doesSo 72 = .ok (.ior, 1) := by decide +kernel
theorem dX13_doesSo_73 : decode cX13_doesSo 73 = .ok (.iastore, 1) := by decide +kernel
theorem dX13_doesSo_74 : decode cX13_doesSo 74 = .ok (.goto 10, 3) := by decide +kernel
theorem dX13_doesSo_77 : decode cX13_doesSo 77 = .ok (.aload_n 0, 1) := by decide +kernel
theorem dX13_doesSo_78 : decode cX13_doesSo 78 = .ok (.sipush 1386, 3) := by decide +kernel
theorem dX13_doesSo_81 : decode cX13_doesSo 81 = .ok (.invokevirtual 393, 3) := by decide +kernel
theorem dX13_doesSo_84 : decode cX13_doesSo 84 = .ok (.return_, 1) := by decide +kernel
theorem dX13_coinsOf_0 : decode cX13_coinsOf 0 = .ok (.iconst 0, 1) := by decide +kernel
theorem dX13_coinsOf_1 : decode cX13_coinsOf 1 = .ok (.istore_n 2, 1) := by decide +kernel
theorem dX13_coinsOf_2 : decode cX13_coinsOf 2 = .ok (.iconst 0, 1) := by decide +kernel
theorem dX13_coinsOf_3 : decode cX13_coinsOf 3 = .ok (.istore_n 3, 1) := by decide +kernel
theorem dX13_coinsOf_4 : decode cX13_coinsOf 4 = .ok (.iload_n 3, 1) := by decide +kernel
theorem dX13_coinsOf_5 : decode cX13_coinsOf 5 = .ok (.aload_n 0, 1) := by decide +kernel
theorem dX13_coinsOf_6 : decode cX13_coinsOf 6 = .ok (.invokevirtual 320, 3) := by decide +kernel
theorem dX13_coinsOf_9 : decode cX13_coinsOf 9 = .ok (.if_icmp .ge 23, 3) := by decide +kernel
theorem dX13_coinsOf_12 : decode cX13_coinsOf 12 = .ok (.iload_n 2, 1) := by decide +kernel
theorem dX13_coinsOf_13 : decode cX13_coinsOf 13 = .ok (.aload_n 0, 1) := by decide +kernel
theorem dX13_coinsOf_14 : decode cX13_coinsOf 14 = .ok (.getfield 125, 3) := by decide +kernel
theorem dX13_coinsOf_17 : decode cX13_coinsOf 17 = .ok (.iload_n 1, 1) := by decide +kernel
theorem dX13_coinsOf_18 : decode cX13_coinsOf 18 = .ok (.bipush 43, 2) := by decide +kernel
theorem dX13_coinsOf_20 : decode cX13_coinsOf 20 = .ok (.iadd, 1) := by decide +kernel
theorem dX13_coinsOf_21 : decode cX13_coinsOf 21 = .ok (.iload_n 3, 1) := by decide +kernel
theorem dX13_coinsOf_22 : decode cX13_coinsOf 22 = .ok (.iadd, 1) := by decide +kernel
theorem dX13_coinsOf_23 : decode cX13_coinsOf 23 = .ok (.iaload, 1) := by decide +kernel
theorem dX13_coinsOf_24 : decode cX13_coinsOf 24 = .ok (.iadd, 1) := by decide +kernel
theorem dX13_coinsOf_25 : decode cX13_coinsOf 25 = .ok (.istore_n 2, 1) := by decide +kernel
theorem dX13_coinsOf_26 : decode cX13_coinsOf 26 = .ok (.iinc 3 1, 3) := by decide +kernel
theorem dX13_coinsOf_29 : decode cX13_coinsOf 29 = .ok (.goto (-25), 3) := by decide +kernel
theorem dX13_coinsOf_32 : decode cX13_coinsOf 32 = .ok (.iload_n 2, 1) := by decide +kernel
theorem dX13_coinsOf_33 : decode cX13_coinsOf 33 = .ok (.ireturn, 1) := by decide +kernel
theorem dX13_judged_0 : decode cX13_judged 0 = .ok (.aload_n 0, 1) := by decide +kernel
theorem dX13_judged_1 : decode cX13_judged 1 = .ok (.iconst 0, 1) := by decide +kernel
theorem dX13_judged_2 : decode cX13_judged 2 = .ok (.putfield 1, 3) := by decide +kernel
theorem dX13_judged_5 : decode cX13_judged 5 = .ok (.iload_n 1, 1) := by decide +kernel
theorem dX13_judged_6 : decode cX13_judged 6 = .ok (.iconst 0, 1) := by decide +kernel
theorem dX13_judged_7 : decode cX13_judged 7 = .ok (.iconst 2, 1) := by decide +kernel
theorem dX13_judged_8 : decode cX13_judged 8 = .ok (.invokestatic 231, 3) := by decide +kernel
theorem dX13_judged_11 : decode cX13_judged 11 = .ok (.ifCond .ne 6, 3) := by decide +kernel
theorem dX13_judged_14 : decode cX13_judged 14 = .ok (.bipush (-2), 2) := by decide +kernel
theorem dX13_judged_16 : decode cX13_judged 16 = .ok (.ireturn, 1) := by decide +kernel
theorem dX13_judged_17 : decode cX13_judged 17 = .ok (.aload_n 0, 1) := by decide +kernel
theorem dX13_judged_18 : decode cX13_judged 18 = .ok (.sipush 1386, 3) := by decide +kernel
theorem dX13_judged_21 : decode cX13_judged 21 = .ok (.invokevirtual 326, 3) := by decide +kernel
theorem dX13_judged_24 : decode cX13_judged 24 = .ok (.iconst (-1), 1) := by decide +kernel
theorem dX13_judged_25 : decode cX13_judged 25 = .ok (.istore_n 2, 1) := by decide +kernel
theorem dX13_judged_26 : decode cX13_judged 26 = .ok (.iconst 0, 1) := by decide +kernel
theorem dX13_judged_27 : decode cX13_judged 27 = .ok (.istore_n 3, 1) := by decide +kernel
theorem dX13_judged_28 : decode cX13_judged 28 = .ok (.iload_n 3, 1) := by decide +kernel
theorem dX13_judged_29 : decode cX13_judged 29 = .ok (.aload_n 0, 1) := by decide +kernel
theorem dX13_judged_30 : decode cX13_judged 30 = .ok (.getfield 116, 3) := by decide +kernel
theorem dX13_judged_33 : decode cX13_judged 33 = .ok (.iconst 0, 1) := by decide +kernel
theorem dX13_judged_34 : decode cX13_judged 34 = .ok (.iaload, 1) := by decide +kernel
theorem dX13_judged_35 : decode cX13_judged 35 = .ok (.if_icmp .ge 35, 3) := by decide +kernel
theorem dX13_judged_38 : decode cX13_judged 38 = .ok (.aload_n 0, 1) := by decide +kernel
theorem dX13_judged_39 : decode cX13_judged 39 = .ok (.iconst 1, 1) := by decide +kernel
theorem dX13_judged_40 : decode cX13_judged 40 = .ok (.iconst 4, 1) := by decide +kernel
theorem dX13_judged_41 : decode cX13_judged 41 = .ok (.iload_n 3, 1) := by decide +kernel
theorem dX13_judged_42 : decode cX13_judged 42 = .ok (.imul, 1) := by decide +kernel
theorem dX13_judged_43 : decode cX13_judged 43 = .ok (.iadd, 1) := by decide +kernel
theorem dX13_judged_44 : decode cX13_judged 44 = .ok (.invokevirtual 400, 3) := by decide +kernel
theorem dX13_judged_47 : decode cX13_judged 47 = .ok (.istore 4, 2) := by decide +kernel
theorem dX13_judged_49 : decode cX13_judged 49 = .ok (.iload 4, 2) := by decide +kernel
theorem dX13_judged_51 : decode cX13_judged 51 = .ok (.ifCond .ne 11, 3) := by decide +kernel
theorem dX13_judged_54 : decode cX13_judged 54 = .ok (.iload_n 2, 1) := by decide +kernel
theorem dX13_judged_55 : decode cX13_judged 55 = .ok (.ifCond .ge 7, 3) := by decide +kernel
theorem dX13_judged_58 : decode cX13_judged 58 = .ok (.iload_n 3, 1) := by decide +kernel
theorem dX13_judged_59 : decode cX13_judged 59 = .ok (.goto 4, 3) := by decide +kernel
theorem dX13_judged_62 : decode cX13_judged 62 = .ok (.iload_n 2, 1) := by decide +kernel
theorem dX13_judged_63 : decode cX13_judged 63 = .ok (.istore_n 2, 1) := by decide +kernel
theorem dX13_judged_64 : decode cX13_judged 64 = .ok (.iinc 3 1, 3) := by decide +kernel
theorem dX13_judged_67 : decode cX13_judged 67 = .ok (.goto (-39), 3) := by decide +kernel
theorem dX13_judged_70 : decode cX13_judged 70 = .ok (.iload_n 1, 1) := by decide +kernel
theorem dX13_judged_71 : decode cX13_judged 71 = .ok (.ifCond .ne 7, 3) := by decide +kernel
theorem dX13_judged_74 : decode cX13_judged 74 = .ok (.iload_n 2, 1) := by decide +kernel
theorem dX13_judged_75 : decode cX13_judged 75 = .ok (.goto 25, 3) := by decide +kernel
theorem dX13_judged_78 : decode cX13_judged 78 = .ok (.iload_n 1, 1) := by decide +kernel
theorem dX13_judged_79 : decode cX13_judged 79 = .ok (.iconst 1, 1) := by decide +kernel
theorem dX13_judged_80 : decode cX13_judged 80 = .ok (.if_icmp .ne 13, 3) := by decide +kernel
theorem dX13_judged_83 : decode cX13_judged 83 = .ok (.aload_n 0, 1) := by decide +kernel
theorem dX13_judged_84 : decode cX13_judged 84 = .ok (.sipush 1386, 3) := by decide +kernel
theorem dX13_judged_87 : decode cX13_judged 87 = .ok (.invokevirtual 364, 3) := by decide +kernel
theorem dX13_judged_90 : decode cX13_judged 90 = .ok (.goto 10, 3) := by decide +kernel
theorem dX13_judged_93 : decode cX13_judged 93 = .ok (.aload_n 0, 1) := by decide +kernel
theorem dX13_judged_94 : decode cX13_judged 94 = .ok (.sipush 1386, 3) := by decide +kernel
theorem dX13_judged_97 : decode cX13_judged 97 = .ok (.invokevirtual 403, 3) := by decide +kernel
theorem dX13_judged_100 : decode cX13_judged 100 = .ok (.ireturn, 1) := by decide +kernel
theorem dX13_isTree_0 : decode cX13_isTree 0 = .ok (.iconst 1, 1) := by decide +kernel
theorem dX13_isTree_1 : decode cX13_isTree 1 = .ok (.istore_n 2, 1) := by decide +kernel
theorem dX13_isTree_2 : decode cX13_isTree 2 = .ok (.iconst 1, 1) := by decide +kernel
theorem dX13_isTree_3 : decode cX13_isTree 3 = .ok (.istore_n 3, 1) := by decide +kernel
theorem dX13_isTree_4 : decode cX13_isTree 4 = .ok (.iload_n 3, 1) := by decide +kernel
theorem dX13_isTree_5 : decode cX13_isTree 5 = .ok (.iload_n 1, 1) := by decide +kernel
theorem dX13_isTree_6 : decode cX13_isTree 6 = .ok (.if_icmp .ge 60, 3) := by decide +kernel
theorem dX13_isTree_9 : decode cX13_isTree 9 = .ok (.iload_n 2, 1) := by decide +kernel
theorem dX13_isTree_10 : decode cX13_isTree 10 = .ok (.ifCond .eq 56, 3) := by decide +kernel
theorem dX13_isTree_13 : decode cX13_isTree 13 = .ok (.iload_n 3, 1) := by decide +kernel
theorem dX13_isTree_14 : decode cX13_isTree 14 = .ok (.istore 4, 2) := by decide +kernel
theorem dX13_isTree_16 : decode cX13_isTree 16 = .ok (.iconst 0, 1) := by decide +kernel
theorem dX13_isTree_17 : decode cX13_isTree 17 = .ok (.istore 5, 2) := by decide +kernel
theorem dX13_isTree_19 : decode cX13_isTree 19 = .ok (.iload 5, 2) := by decide +kernel
theorem dX13_isTree_21 : decode cX13_isTree 21 = .ok (.iload_n 1, 1) := by decide +kernel
theorem dX13_isTree_22 : decode cX13_isTree 22 = .ok (.if_icmp .ge 27, 3) := by decide +kernel
theorem dX13_isTree_25 : decode cX13_isTree 25 = .ok (.iload 4, 2) := by decide +kernel
theorem dX13_isTree_27 : decode cX13_isTree 27 = .ok (.ifCond .ne 7, 3) := by decide +kernel
theorem dX13_isTree_30 : decode cX13_isTree 30 = .ok (.iconst 0, 1) := by decide +kernel
theorem dX13_isTree_31 : decode cX13_isTree 31 = .ok (.goto 10, 3) := by decide +kernel
theorem dX13_isTree_34 : decode cX13_isTree 34 = .ok (.aload_n 0, 1) := by decide +kernel
theorem dX13_isTree_35 : decode cX13_isTree 35 = .ok (.getfield 135, 3) := by decide +kernel
theorem dX13_isTree_38 : decode cX13_isTree 38 = .ok (.iload 4, 2) := by decide +kernel
theorem dX13_isTree_40 : decode cX13_isTree 40 = .ok (.iaload, 1) := by decide +kernel
theorem dX13_isTree_41 : decode cX13_isTree 41 = .ok (.istore 4, 2) := by decide +kernel
theorem dX13_isTree_43 : decode cX13_isTree 43 = .ok (.iinc 5 1, 3) := by decide +kernel
theorem dX13_isTree_46 : decode cX13_isTree 46 = .ok (.goto (-27), 3) := by decide +kernel
theorem dX13_isTree_49 : decode cX13_isTree 49 = .ok (.iload 4, 2) := by decide +kernel
theorem dX13_isTree_51 : decode cX13_isTree 51 = .ok (.ifCond .ne 7, 3) := by decide +kernel
theorem dX13_isTree_54 : decode cX13_isTree 54 = .ok (.iconst 1, 1) := by decide +kernel
theorem dX13_isTree_55 : decode cX13_isTree 55 = .ok (.goto 4, 3) := by decide +kernel
theorem dX13_isTree_58 : decode cX13_isTree 58 = .ok (.iconst 0, 1) := by decide +kernel
theorem dX13_isTree_59 : decode cX13_isTree 59 = .ok (.istore_n 2, 1) := by decide +kernel
theorem dX13_isTree_60 : decode cX13_isTree 60 = .ok (.iinc 3 1, 3) := by decide +kernel
theorem dX13_isTree_63 : decode cX13_isTree 63 = .ok (.goto (-59), 3) := by decide +kernel
theorem dX13_isTree_66 : decode cX13_isTree 66 = .ok (.iload_n 2, 1) := by decide +kernel
theorem dX13_isTree_67 : decode cX13_isTree 67 = .ok (.ireturn, 1) := by decide +kernel
theorem dX13_trees_0 : decode cX13_trees 0 = .ok (.iload_n 2, 1) := by decide +kernel
theorem dX13_trees_1 : decode cX13_trees 1 = .ok (.iload_n 1, 1) := by decide +kernel
theorem dX13_trees_2 : decode cX13_trees 2 = .ok (.if_icmp .ne 10, 3) := by decide +kernel
theorem dX13_trees_5 : decode cX13_trees 5 = .ok (.aload_n 0, 1) := by decide +kernel
theorem dX13_trees_6 : decode cX13_trees 6 = .ok (.iload_n 1, 1) := by decide +kernel
theorem dX13_trees_7 : decode cX13_trees 7 = .ok (.iload_n 3, 1) := by decide +kernel
theorem dX13_trees_8 : decode cX13_trees 8 = .ok (.invokevirtual 406, 3) := by decide +kernel
theorem dX13_trees_11 : decode cX13_trees 11 = .ok (.return_, 1) := by decide +kernel
theorem dX13_trees_12 : decode cX13_trees 12 = .ok (.iconst 0, 1) := by decide +kernel
theorem dX13_trees_13 : decode cX13_trees 13 = .ok (.istore 4, 2) := by decide +kernel
theorem dX13_trees_15 : decode cX13_trees 15 = .ok (.iload 4, 2) := by decide +kernel
theorem dX13_trees_17 : decode cX13_trees 17 = .ok (.iload_n 1, 1) := by decide +kernel
theorem dX13_trees_18 : decode cX13_trees 18 = .ok (.if_icmp .ge 50, 3) := by decide +kernel
theorem dX13_trees_21 : decode cX13_trees 21 = .ok (.iload 4, 2) := by decide +kernel
theorem dX13_trees_23 : decode cX13_trees 23 = .ok (.iload_n 2, 1) := by decide +kernel
theorem dX13_trees_24 : decode cX13_trees 24 = .ok (.if_icmp .eq 38, 3) := by decide +kernel
theorem dX13_trees_27 : decode cX13_trees 27 = .ok (.aload_n 0, 1) := by decide +kernel
theorem dX13_trees_28 : decode cX13_trees 28 = .ok (.getfield 135, 3) := by decide +kernel
theorem dX13_trees_31 : decode cX13_trees 31 = .ok (.iload_n 2, 1) := by decide +kernel
theorem dX13_trees_32 : decode cX13_trees 32 = .ok (.iload 4, 2) := by decide +kernel
theorem dX13_trees_34 : decode cX13_trees 34 = .ok (.iastore, 1) := by decide +kernel
theorem dX13_trees_35 : decode cX13_trees 35 = .ok (.aload_n 0, 1) := by decide +kernel
theorem dX13_trees_36 : decode cX13_trees 36 = .ok (.iload_n 1, 1) := by decide +kernel
theorem dX13_trees_37 : decode cX13_trees 37 = .ok (.iload_n 2, 1) := by decide +kernel
theorem dX13_trees_38 : decode cX13_trees 38 = .ok (.iconst 1, 1) := by decide +kernel
theorem dX13_trees_39 : decode cX13_trees 39 = .ok (.iadd, 1) := by decide +kernel
theorem dX13_trees_40 : decode cX13_trees 40 = .ok (.iload_n 3, 1) := by decide +kernel
theorem dX13_trees_41 : decode cX13_trees 41 = .ok (.aload_n 0, 1) := by decide +kernel
theorem dX13_trees_42 : decode cX13_trees 42 = .ok (.aload_n 0, 1) := by decide +kernel
theorem dX13_trees_43 : decode cX13_trees 43 = .ok (.getfield 132, 3) := by decide +kernel
theorem dX13_trees_46 : decode cX13_trees 46 = .ok (.iload_n 2, 1) := by decide +kernel
theorem dX13_trees_47 : decode cX13_trees 47 = .ok (.iaload, 1) := by decide +kernel
theorem dX13_trees_48 : decode cX13_trees 48 = .ok (.aload_n 0, 1) := by decide +kernel
theorem dX13_trees_49 : decode cX13_trees 49 = .ok (.getfield 132, 3) := by decide +kernel
theorem dX13_trees_52 : decode cX13_trees 52 = .ok (.iload 4, 2) := by decide +kernel
theorem dX13_trees_54 : decode cX13_trees 54 = .ok (.iaload, 1) := by decide +kernel
theorem dX13_trees_55 : decode cX13_trees 55 = .ok (.invokevirtual 352, 3) := by decide +kernel
theorem dX13_trees_58 : decode cX13_trees 58 = .ok (.iadd, 1) := by decide +kernel
theorem dX13_trees_59 : decode cX13_trees 59 = .ok (.invokevirtual 409, 3) := by decide +kernel
theorem dX13_trees_62 : decode cX13_trees 62 = .ok (.iinc 4 1, 3) := by decide +kernel
theorem dX13_trees_65 : decode cX13_trees 65 = .ok (.goto (-50), 3) := by decide +kernel
theorem dX13_trees_68 : decode cX13_trees 68 = .ok (.return_, 1) := by decide +kernel
theorem dX13_looksAtTree_0 : decode cX13_looksAtTree 0 = .ok (.aload_n 0, 1) := by decide +kernel
theorem dX13_looksAtTree_1 : decode cX13_looksAtTree 1 = .ok (.getfield 412, 3) := by decide +kernel
theorem dX13_looksAtTree_4 : decode cX13_looksAtTree 4 = .ok (.ifCond .lt 11, 3) := by decide +kernel
theorem dX13_looksAtTree_7 : decode cX13_looksAtTree 7 = .ok (.iload_n 2, 1) := by decide +kernel
theorem dX13_looksAtTree_8 : decode cX13_looksAtTree 8 = .ok (.aload_n 0, 1) := by decide +kernel
theorem dX13_looksAtTree_9 : decode cX13_looksAtTree 9 = .ok (.getfield 412, 3) := by decide +kernel
theorem dX13_looksAtTree_12 : decode cX13_looksAtTree 12 = .ok (.if_icmp .gt 11, 3) := by decide +kernel
theorem dX13_looksAtTree_15 : decode cX13_looksAtTree 15 = .ok (.aload_n 0, 1) := by decide +kernel
theorem dX13_looksAtTree_16 : decode cX13_looksAtTree 16 = .ok (.iload_n 1, 1) := by decide +kernel
theorem dX13_looksAtTree_17 : decode cX13_looksAtTree 17 = .ok (.invokevirtual 415, 3) := by decide +kernel
theorem dX13_looksAtTree_20 : decode cX13_looksAtTree 20 = .ok (.ifCond .ne 4, 3) := by decide +kernel
theorem dX13_looksAtTree_23 : decode cX13_looksAtTree 23 = .ok (.return_, 1) := by decide +kernel
theorem dX13_looksAtTree_24 : decode cX13_looksAtTree 24 = .ok (.aload_n 0, 1) := by decide +kernel
theorem dX13_looksAtTree_25 : decode cX13_looksAtTree 25 = .ok (.getfield 412, 3) := by decide +kernel
theorem dX13_looksAtTree_28 : decode cX13_looksAtTree 28 = .ok (.ifCond .lt 11, 3) := by decide +kernel
theorem dX13_looksAtTree_31 : decode cX13_looksAtTree 31 = .ok (.iload_n 2, 1) := by decide +kernel
theorem dX13_looksAtTree_32 : decode cX13_looksAtTree 32 = .ok (.aload_n 0, 1) := by decide +kernel
theorem dX13_looksAtTree_33 : decode cX13_looksAtTree 33 = .ok (.getfield 412, 3) := by decide +kernel
theorem dX13_looksAtTree_36 : decode cX13_looksAtTree 36 = .ok (.if_icmp .ge 38, 3) := by decide +kernel
theorem dX13_looksAtTree_39 : decode cX13_looksAtTree 39 = .ok (.aload_n 0, 1) := by decide +kernel
theorem dX13_looksAtTree_40 : decode cX13_looksAtTree 40 = .ok (.iload_n 2, 1) := by decide +kernel
theorem dX13_looksAtTree_41 : decode cX13_looksAtTree 41 = .ok (.putfield 412, 3) := by decide +kernel
theorem dX13_looksAtTree_44 : decode cX13_looksAtTree 44 = .ok (.aload_n 0, 1) := by decide +kernel
theorem dX13_looksAtTree_45 : decode cX13_looksAtTree 45 = .ok (.iconst 0, 1) := by decide +kernel
theorem dX13_looksAtTree_46 : decode cX13_looksAtTree 46 = .ok (.putfield 418, 3) := by decide +kernel
theorem dX13_looksAtTree_49 : decode cX13_looksAtTree 49 = .ok (.iconst 1, 1) := by decide +kernel
theorem dX13_looksAtTree_50 : decode cX13_looksAtTree 50 = .ok (.istore_n 3, 1) := by decide +kernel
theorem dX13_looksAtTree_51 : decode cX13_looksAtTree 51 = .ok (.iload_n 3, 1) := by decide +kernel
theorem dX13_looksAtTree_52 : decode cX13_looksAtTree 52 = .ok (.iload_n 1, 1) := by decide +kernel
theorem dX13_looksAtTree_53 : decode cX13_looksAtTree 53 = .ok (.if_icmp .ge 21, 3) := by decide +kernel
theorem dX13_looksAtTree_56 : decode cX13_looksAtTree 56 = .ok (.aload_n 0, 1) := by decide +kernel
theorem dX13_looksAtTree_57 : decode cX13_looksAtTree 57 = .ok (.getfield 138, 3) := by decide +kernel
theorem dX13_looksAtTree_60 : decode cX13_looksAtTree 60 = .ok (.iload_n 3, 1) := by decide +kernel
theorem dX13_looksAtTree_61 : decode cX13_looksAtTree 61 = .ok (.aload_n 0, 1) := by decide +kernel
theorem dX13_looksAtTree_62 : decode cX13_looksAtTree 62 = .ok (.getfield 135, 3) := by decide +kernel
theorem dX13_looksAtTree_65 : decode cX13_looksAtTree 65 = .ok (.iload_n 3, 1) := by decide +kernel
theorem dX13_looksAtTree_66 : decode cX13_looksAtTree 66 = .ok (.iaload, 1) := by decide +kernel
theorem dX13_looksAtTree_67 : decode cX13_looksAtTree 67 = .ok (.iastore, 1) := by decide +kernel
theorem dX13_looksAtTree_68 : decode cX13_looksAtTree 68 = .ok (.iinc 3 1, 3) := by decide +kernel
theorem dX13_looksAtTree_71 : decode cX13_looksAtTree 71 = .ok (.goto (-20), 3) := by decide +kernel
theorem dX13_looksAtTree_74 : decode cX13_looksAtTree 74 = .ok (.aload_n 0, 1) := by decide +kernel
theorem dX13_looksAtTree_75 : decode cX13_looksAtTree 75 = .ok (.dup, 1) := by decide +kernel
theorem dX13_looksAtTree_76 : decode cX13_looksAtTree 76 = .ok (.getfield 418, 3) := by decide +kernel
theorem dX13_looksAtTree_79 : decode cX13_looksAtTree 79 = .ok (.iconst 1, 1) := by decide +kernel
theorem dX13_looksAtTree_80 : decode cX13_looksAtTree 80 = .ok (.iadd, 1) := by decide +kernel
theorem dX13_looksAtTree_81 : decode cX13_looksAtTree 81 = .ok (.putfield 418, 3) := by decide +kernel
theorem dX13_looksAtTree_84 : decode cX13_looksAtTree 84 = .ok (.return_, 1) := by decide +kernel
theorem dX13_areThere_0 : decode cX13_areThere 0 = .ok (.iload_n 1, 1) := by decide +kernel
theorem dX13_areThere_1 : decode cX13_areThere 1 = .ok (.iconst 0, 1) := by decide +kernel
theorem dX13_areThere_2 : decode cX13_areThere 2 = .ok (.iconst 1, 1) := by decide +kernel
theorem dX13_areThere_3 : decode cX13_areThere 3 = .ok (.aload_n 0, 1) := by decide +kernel
theorem dX13_areThere_4 : decode cX13_areThere 4 = .ok (.getfield 125, 3) := by decide +kernel
theorem dX13_areThere_7 : decode cX13_areThere 7 = .ok (.iconst 2, 1) := by decide +kernel
theorem dX13_areThere_8 : decode cX13_areThere 8 = .ok (.iaload, 1) := by decide +kernel
theorem dX13_areThere_9 : decode cX13_areThere 9 = .ok (.ishl, 1) := by decide +kernel
theorem dX13_areThere_10 : decode cX13_areThere 10 = .ok (.iconst 1, 1) := by decide +kernel
theorem dX13_areThere_11 : decode cX13_areThere 11 = .ok (.isub, 1) := by decide +kernel
theorem dX13_areThere_12 : decode cX13_areThere 12 = .ok (.invokestatic 231, 3) := by decide +kernel
theorem dX13_areThere_15 : decode cX13_areThere 15 = .ok (.ireturn, 1) := by decide +kernel
theorem dX13_tree_0 : decode cX13_tree 0 = .ok (.aload_n 0, 1) := by decide +kernel
theorem dX13_tree_1 : decode cX13_tree 1 = .ok (.iconst 0, 1) := by decide +kernel
theorem dX13_tree_2 : decode cX13_tree 2 = .ok (.putfield 1, 3) := by decide +kernel
theorem dX13_tree_5 : decode cX13_tree 5 = .ok (.iload_n 1, 1) := by decide +kernel
theorem dX13_tree_6 : decode cX13_tree 6 = .ok (.invokestatic 339, 3) := by decide +kernel
theorem dX13_tree_9 : decode cX13_tree 9 = .ok (.istore_n 3, 1) := by decide +kernel
theorem dX13_tree_10 : decode cX13_tree 10 = .ok (.aload_n 0, 1) := by decide +kernel
theorem dX13_tree_11 : decode cX13_tree 11 = .ok (.iload_n 1, 1) := by decide +kernel
theorem dX13_tree_12 : decode cX13_tree 12 = .ok (.invokevirtual 421, 3) := by decide +kernel
theorem dX13_tree_15 : decode cX13_tree 15 = .ok (.ifCond .eq 22, 3) := by decide +kernel
theorem dX13_tree_18 : decode cX13_tree 18 = .ok (.iload_n 3, 1) := by decide +kernel
theorem dX13_tree_19 : decode cX13_tree 19 = .ok (.iconst 1, 1) := by decide +kernel
theorem dX13_tree_20 : decode cX13_tree 20 = .ok (.bipush 6, 2) := by decide +kernel
theorem dX13_tree_22 : decode cX13_tree 22 = .ok (.invokestatic 231, 3) := by decide +kernel
theorem dX13_tree_25 : decode cX13_tree 25 = .ok (.ifCond .eq 12, 3) := by decide +kernel
theorem dX13_tree_28 : decode cX13_tree 28 = .ok (.iload_n 2, 1) := by decide +kernel
theorem dX13_tree_29 : decode cX13_tree 29 = .ok (.iconst 0, 1) := by decide +kernel
theorem dX13_tree_30 : decode cX13_tree 30 = .ok (.iload_n 3, 1) := by decide +kernel
theorem dX13_tree_31 : decode cX13_tree 31 = .ok (.invokestatic 231, 3) := by decide +kernel
theorem dX13_tree_34 : decode cX13_tree 34 = .ok (.ifCond .ne 5, 3) := by decide +kernel
theorem dX13_tree_37 : decode cX13_tree 37 = .ok (.iconst (-1), 1) := by decide +kernel
theorem dX13_tree_38 : decode cX13_tree 38 = .ok (.ireturn, 1) := by decide +kernel
theorem dX13_tree_39 : decode cX13_tree 39 = .ok (.iconst 0, 1) := by decide +kernel
theorem dX13_tree_40 : decode cX13_tree 40 = .ok (.istore 4, 2) := by decide +kernel
theorem dX13_tree_42 : decode cX13_tree 42 = .ok (.iconst 0, 1) := by decide +kernel
theorem dX13_tree_43 : decode cX13_tree 43 = .ok (.istore 5, 2) := by decide +kernel
theorem dX13_tree_45 : decode cX13_tree 45 = .ok (.iload 5, 2) := by decide +kernel
theorem dX13_tree_47 : decode cX13_tree 47 = .ok (.bipush 8, 2) := by decide +kernel
theorem dX13_tree_49 : decode cX13_tree 49 = .ok (.if_icmp .ge 31, 3) := by decide +kernel
theorem dX13_tree_52 : decode cX13_tree 52 = .ok (.iload_n 1, 1) := by decide +kernel
theorem dX13_tree_53 : decode cX13_tree 53 = .ok (.iload 5, 2) := by decide +kernel
theorem dX13_tree_55 : decode cX13_tree 55 = .ok (.ishr, 1) := by decide +kernel
theorem dX13_tree_56 : decode cX13_tree 56 = .ok (.iconst 1, 1) := by decide +kernel
theorem dX13_tree_57 : decode cX13_tree 57 = .ok (.iand, 1) := by decide +kernel
theorem dX13_tree_58 : decode cX13_tree 58 = .ok (.iconst 1, 1) := by decide +kernel
theorem dX13_tree_59 : decode cX13_tree 59 = .ok (.if_icmp .ne 15, 3) := by decide +kernel
theorem dX13_tree_62 : decode cX13_tree 62 = .ok (.aload_n 0, 1) := by decide +kernel
theorem dX13_tree_63 : decode cX13_tree 63 = .ok (.getfield 132, 3) := by decide +kernel
theorem dX13_tree_66 : decode cX13_tree 66 = .ok (.iload 4, 2) := by decide +kernel
theorem dX13_tree_68 : decode cX13_tree 68 = .ok (.iload 5, 2) := by decide +kernel
theorem dX13_tree_70 : decode cX13_tree 70 = .ok (.iastore, 1) := by decide +kernel
theorem dX13_tree_71 : decode cX13_tree 71 = .ok (.iinc 4 1, 3) := by decide +kernel
theorem dX13_tree_74 : decode cX13_tree 74 = .ok (.iinc 5 1, 3) := by decide +kernel
theorem dX13_tree_77 : decode cX13_tree 77 = .ok (.goto (-32), 3) := by decide +kernel
theorem dX13_tree_80 : decode cX13_tree 80 = .ok (.aload_n 0, 1) := by decide +kernel
theorem dX13_tree_81 : decode cX13_tree 81 = .ok (.iconst (-1), 1) := by decide +kernel
theorem dX13_tree_82 : decode cX13_tree 82 = .ok (.putfield 412, 3) := by decide +kernel
theorem dX13_tree_85 : decode cX13_tree 85 = .ok (.aload_n 0, 1) := by decide +kernel
theorem dX13_tree_86 : decode cX13_tree 86 = .ok (.iload_n 3, 1) := by decide +kernel
theorem dX13_tree_87 : decode cX13_tree 87 = .ok (.iconst 1, 1) := by decide +kernel
theorem dX13_tree_88 : decode cX13_tree 88 = .ok (.iconst 0, 1) := by decide +kernel
theorem dX13_tree_89 : decode cX13_tree 89 = .ok (.invokevirtual 409, 3) := by decide +kernel
theorem dX13_tree_92 : decode cX13_tree 92 = .ok (.iload_n 2, 1) := by decide +kernel
theorem dX13_tree_93 : decode cX13_tree 93 = .ok (.ifCond .ne 10, 3) := by decide +kernel
theorem dX13_tree_96 : decode cX13_tree 96 = .ok (.aload_n 0, 1) := by decide +kernel
theorem dX13_tree_97 : decode cX13_tree 97 = .ok (.getfield 412, 3) := by decide +kernel
theorem dX13_tree_100 : decode cX13_tree 100 = .ok (.goto 28, 3) := by decide +kernel
theorem dX13_tree_103 : decode cX13_tree 103 = .ok (.iload_n 2, 1) := by decide +kernel
theorem dX13_tree_104 : decode cX13_tree 104 = .ok (.iconst 1, 1) := by decide +kernel
theorem dX13_tree_105 : decode cX13_tree 105 = .ok (.if_icmp .ne 10, 3) := by decide +kernel
theorem dX13_tree_108 : decode cX13_tree 108 = .ok (.aload_n 0, 1) := by decide +kernel
theorem dX13_tree_109 : decode cX13_tree 109 = .ok (.getfield 418, 3) := by decide +kernel
theorem dX13_tree_112 : decode cX13_tree 112 = .ok (.goto 16, 3) := by decide +kernel
theorem dX13_tree_115 : decode cX13_tree 115 = .ok (.aload_n 0, 1) := by decide +kernel
theorem dX13_tree_116 : decode cX13_tree 116 = .ok (.getfield 132, 3) := by decide +kernel
theorem dX13_tree_119 : decode cX13_tree 119 = .ok (.aload_n 0, 1) := by decide +kernel
theorem dX13_tree_120 : decode cX13_tree 120 = .ok (.getfield 138, 3) := by decide +kernel
theorem dX13_tree_123 : decode cX13_tree 123 = .ok (.iload_n 2, 1) := by decide +kernel
theorem dX13_tree_124 : decode cX13_tree 124 = .ok (.iconst 1, 1) := by decide +kernel
theorem dX13_tree_125 : decode cX13_tree 125 = .ok (.isub, 1) := by decide +kernel
theorem dX13_tree_126 : decode cX13_tree 126 = .ok (.iaload, 1) := by decide +kernel
theorem dX13_tree_127 : decode cX13_tree 127 = .ok (.iaload, 1) := by decide +kernel
theorem dX13_tree_128 : decode cX13_tree 128 = .ok (.ireturn, 1) := by decide +kernel
theorem dX13_kin_0 : decode cX13_kin 0 = .ok (.aload_n 0, 1) := by decide +kernel
theorem dX13_kin_1 : decode cX13_kin 1 = .ok (.iconst 0, 1) := by decide +kernel
theorem dX13_kin_2 : decode cX13_kin 2 = .ok (.putfield 1, 3) := by decide +kernel
theorem dX13_kin_5 : decode cX13_kin 5 = .ok (.aload_n 0, 1) := by decide +kernel
theorem dX13_kin_6 : decode cX13_kin 6 = .ok (.iconst 0, 1) := by decide +kernel
theorem dX13_kin_7 : decode cX13_kin 7 = .ok (.iload_n 1, 1) := by decide +kernel
theorem dX13_kin_8 : decode cX13_kin 8 = .ok (.invokevirtual 345, 3) := by decide +kernel
theorem dX13_kin_11 : decode cX13_kin 11 = .ok (.ifCond .ne 5, 3) := by decide +kernel
theorem dX13_kin_14 : decode cX13_kin 14 = .ok (.iconst (-1), 1) := by decide +kernel
theorem dX13_kin_15 : decode cX13_kin 15 = .ok (.ireturn, 1) := by decide +kernel
theorem dX13_kin_16 : decode cX13_kin 16 = .ok (.iconst 0, 1) := by decide +kernel
theorem dX13_kin_17 : decode cX13_kin 17 = .ok (.istore_n 2, 1) := by decide +kernel
theorem dX13_kin_18 : decode cX13_kin 18 = .ok (.iload_n 1, 1) := by decide +kernel
theorem dX13_kin_19 : decode cX13_kin 19 = .ok (.iconst 1, 1) := by decide +kernel
theorem dX13_kin_20 : decode cX13_kin 20 = .ok (.iadd, 1) := by decide +kernel
theorem dX13_kin_21 : decode cX13_kin 21 = .ok (.istore_n 3, 1) := by decide +kernel
theorem dX13_kin_22 : decode cX13_kin 22 = .ok (.iload_n 3, 1) := by decide +kernel
theorem dX13_kin_23 : decode cX13_kin 23 = .ok (.aload_n 0, 1) := by decide +kernel
theorem dX13_kin_24 : decode cX13_kin 24 = .ok (.getfield 125, 3) := by decide +kernel
theorem dX13_kin_27 : decode cX13_kin 27 = .ok (.iconst 2, 1) := by decide +kernel
theorem dX13_kin_28 : decode cX13_kin 28 = .ok (.iaload, 1) := by decide +kernel
theorem dX13_kin_29 : decode cX13_kin 29 = .ok (.if_icmp .ge 46, 3) := by decide +kernel
theorem dX13_kin_32 : decode cX13_kin 32 = .ok (.aload_n 0, 1) := by decide +kernel
theorem dX13_kin_33 : decode cX13_kin 33 = .ok (.getfield 125, 3) := by decide +kernel
theorem dX13_kin_36 : decode cX13_kin 36 = .ok (.bipush 27, 2) := by decide +kernel
theorem dX13_kin_38 : decode cX13_kin 38 = .ok (.iload_n 3, 1) := by decide +kernel
theorem dX13_kin_39 : decode cX13_kin 39 = .ok (.iadd, 1) := by decide +kernel
theorem dX13_kin_40 : decode cX13_kin 40 = .ok (.iaload, 1) := by decide +kernel
theorem dX13_kin_41 : decode cX13_kin 41 = .ok (.istore 4, 2) := by decide +kernel
theorem dX13_kin_43 : decode cX13_kin 43 = .ok (.iload_n 2, 1) := by decide +kernel
theorem dX13_kin_44 : decode cX13_kin 44 = .ok (.iload 4, 2) := by decide +kernel
theorem dX13_kin_46 : decode cX13_kin 46 = .ok (.iload_n 1, 1) := by decide +kernel
theorem dX13_kin_47 : decode cX13_kin 47 = .ok (.if_icmp .eq 13, 3) := by decide +kernel
theorem dX13_kin_50 : decode cX13_kin 50 = .ok (.iload_n 2, 1) := by decide +kernel
theorem dX13_kin_51 : decode cX13_kin 51 = .ok (.iload 4, 2) := by decide +kernel
theorem dX13_kin_53 : decode cX13_kin 53 = .ok (.ishr, 1) := by decide +kernel
theorem dX13_kin_54 : decode cX13_kin 54 = .ok (.iconst 1, 1) := by decide +kernel
theorem dX13_kin_55 : decode cX13_kin 55 = .ok (.iand, 1) := by decide +kernel
theorem dX13_kin_56 : decode cX13_kin 56 = .ok (.iconst 1, 1) := by decide +kernel
theorem dX13_kin_57 : decode cX13_kin 57 = .ok (.if_icmp .ne 9, 3) := by decide +kernel
theorem dX13_kin_60 : decode cX13_kin 60 = .ok (.iconst 1, 1) := by decide +kernel
theorem dX13_kin_61 : decode cX13_kin 61 = .ok (.iload_n 3, 1) := by decide +kernel
theorem dX13_kin_62 : decode cX13_kin 62 = .ok (.ishl, 1) := by decide +kernel
theorem dX13_kin_63 : decode cX13_kin 63 = .ok (.goto 4, 3) := by decide +kernel
theorem dX13_kin_66 : decode cX13_kin 66 = .ok (.iconst 0, 1) := by decide +kernel
theorem dX13_kin_67 : decode cX13_kin 67 = .ok (.ior, 1) := by decide +kernel
theorem dX13_kin_68 : decode cX13_kin 68 = .ok (.istore_n 2, 1) := by decide +kernel
theorem dX13_kin_69 : decode cX13_kin 69 = .ok (.iinc 3 1, 3) := by decide +kernel
theorem dX13_kin_72 : decode cX13_kin 72 = .ok (.goto (-50), 3) := by decide +kernel
theorem dX13_kin_75 : decode cX13_kin 75 = .ok (.iload_n 2, 1) := by decide +kernel
theorem dX13_kin_76 : decode cX13_kin 76 = .ok (.ireturn, 1) := by decide +kernel
theorem dX13_nearest_0 : decode cX13_nearest 0 = .ok (.aload_n 0, 1) := by decide +kernel
theorem dX13_nearest_1 : decode cX13_nearest 1 = .ok (.iconst 0, 1) := by decide +kernel
theorem dX13_nearest_2 : decode cX13_nearest 2 = .ok (.putfield 1, 3) := by decide +kernel
theorem dX13_nearest_5 : decode cX13_nearest 5 = .ok (.iconst (-1), 1) := by decide +kernel
theorem dX13_nearest_6 : decode cX13_nearest 6 = .ok (.istore_n 2, 1) := by decide +kernel
theorem dX13_nearest_7 : decode cX13_nearest 7 = .ok (.iconst 0, 1) := by decide +kernel
theorem dX13_nearest_8 : decode cX13_nearest 8 = .ok (.istore_n 3, 1) := by decide +kernel
theorem dX13_nearest_9 : decode cX13_nearest 9 = .ok (.iload_n 3, 1) := by decide +kernel
theorem dX13_nearest_10 : decode cX13_nearest 10 = .ok (.aload_n 0, 1) := by decide +kernel
theorem dX13_nearest_11 : decode cX13_nearest 11 = .ok (.getfield 125, 3) := by decide +kernel
theorem dX13_nearest_14 : decode cX13_nearest 14 = .ok (.iconst 2, 1) := by decide +kernel
theorem dX13_nearest_15 : decode cX13_nearest 15 = .ok (.iaload, 1) := by decide +kernel
theorem dX13_nearest_16 : decode cX13_nearest 16 = .ok (.if_icmp .ge 74, 3) := by decide +kernel
theorem dX13_nearest_19 : decode cX13_nearest 19 = .ok (.aload_n 0, 1) := by decide +kernel
theorem dX13_nearest_20 : decode cX13_nearest 20 = .ok (.iconst 0, 1) := by decide +kernel
theorem dX13_nearest_21 : decode cX13_nearest 21 = .ok (.iload_n 1, 1) := by decide +kernel
theorem dX13_nearest_22 : decode cX13_nearest 22 = .ok (.invokevirtual 345, 3) := by decide +kernel
theorem dX13_nearest_25 : decode cX13_nearest 25 = .ok (.ifCond .eq 65, 3) := by decide +kernel
theorem dX13_nearest_28 : decode cX13_nearest 28 = .ok (.iload_n 3, 1) := by decide +kernel
theorem dX13_nearest_29 : decode cX13_nearest 29 = .ok (.iload_n 1, 1) := by decide +kernel
theorem dX13_nearest_30 : decode cX13_nearest 30 = .ok (.if_icmp .eq 21, 3) := by decide +kernel
theorem dX13_nearest_33 : decode cX13_nearest 33 = .ok (.aload_n 0, 1) := by decide +kernel
theorem dX13_nearest_34 : decode cX13_nearest 34 = .ok (.getfield 125, 3) := by decide +kernel
theorem dX13_nearest_37 : decode cX13_nearest 37 = .ok (.bipush 11, 2) := by decide +kernel
theorem dX13_nearest_39 : decode cX13_nearest 39 = .ok (.iload_n 3, 1) := by decide +kernel
theorem dX13_nearest_40 : decode cX13_nearest 40 = .ok (.iadd, 1) := by decide +kernel
theorem dX13_nearest_41 : decode cX13_nearest 41 = .ok (.iaload, 1) := by decide +kernel
theorem dX13_nearest_42 : decode cX13_nearest 42 = .ok (.bipush 6, 2) := by decide +kernel
theorem dX13_nearest_44 : decode cX13_nearest 44 = .ok (.if_icmp .eq 7, 3) := by decide +kernel
theorem dX13_nearest_47 : decode cX13_nearest 47 = .ok (.iconst 1, 1) := by decide +kernel
theorem dX13_nearest_48 : decode cX13_nearest 48 = .ok (.goto 4, 3) := by decide +kernel
theorem dX13_nearest_51 : decode cX13_nearest 51 = .ok (.iconst 0, 1) := by decide +kernel
theorem dX13_nearest_52 : decode cX13_nearest 52 = .ok (.istore 4, 2) := by decide +kernel
theorem dX13_nearest_54 : decode cX13_nearest 54 = .ok (.iload 4, 2) := by decide +kernel
theorem dX13_nearest_56 : decode cX13_nearest 56 = .ok (.ifCond .eq 26, 3) := by decide +kernel
theorem dX13_nearest_59 : decode cX13_nearest 59 = .ok (.iload_n 2, 1) := by decide +kernel
theorem dX13_nearest_60 : decode cX13_nearest 60 = .ok (.ifCond .lt 18, 3) := by decide +kernel
theorem dX13_nearest_63 : decode cX13_nearest 63 = .ok (.aload_n 0, 1) := by decide +kernel
theorem dX13_nearest_64 : decode cX13_nearest 64 = .ok (.iload_n 1, 1) := by decide +kernel
theorem dX13_nearest_65 : decode cX13_nearest 65 = .ok (.iload_n 3, 1) := by decide +kernel
theorem dX13_nearest_66 : decode cX13_nearest 66 = .ok (.invokevirtual 352, 3) := by decide +kernel
theorem dX13_nearest_69 : decode cX13_nearest 69 = .ok (.aload_n 0, 1) := by decide +kernel
theorem dX13_nearest_70 : decode cX13_nearest 70 = .ok (.iload_n 1, 1) := by decide +kernel
theorem dX13_nearest_71 : decode cX13_nearest 71 = .ok (.iload_n 2, 1) := by decide +kernel
theorem dX13_nearest_72 : decode cX13_nearest 72 = .ok (.invokevirtual 352, 3) := by decide +kernel
theorem dX13_nearest_75 : decode cX13_nearest 75 = .ok (.if_icmp .ge 7, 3) := by decide +kernel
theorem dX13_nearest_78 : decode cX13_nearest 78 = .ok (.iload_n 3, 1) := by decide +kernel
theorem dX13_nearest_79 : decode cX13_nearest 79 = .ok (.goto 4, 3) := by decide +kernel
theorem dX13_nearest_82 : decode cX13_nearest 82 = .ok (.iload_n 2, 1) := by decide +kernel
theorem dX13_nearest_83 : decode cX13_nearest 83 = .ok (.istore_n 2, 1) := by decide +kernel
theorem dX13_nearest_84 : decode cX13_nearest 84 = .ok (.iinc 3 1, 3) := by decide +kernel
theorem dX13_nearest_87 : decode cX13_nearest 87 = .ok (.goto (-78), 3) := by decide +kernel
theorem dX13_nearest_90 : decode cX13_nearest 90 = .ok (.iload_n 2, 1) := by decide +kernel
theorem dX13_nearest_91 : decode cX13_nearest 91 = .ok (.ireturn, 1) := by decide +kernel
theorem dX13_meet_0 : decode cX13_meet 0 = .ok (.aload_n 0, 1) := by decide +kernel
theorem dX13_meet_1 : decode cX13_meet 1 = .ok (.iconst 0, 1) := by decide +kernel
theorem dX13_meet_2 : decode cX13_meet 2 = .ok (.putfield 1, 3) := by decide +kernel
theorem dX13_meet_5 : decode cX13_meet 5 = .ok (.aload_n 0, 1) := by decide +kernel
theorem dX13_meet_6 : decode cX13_meet 6 = .ok (.iload_n 1, 1) := by decide +kernel
theorem dX13_meet_7 : decode cX13_meet 7 = .ok (.invokevirtual 355, 3) := by decide +kernel
theorem dX13_meet_10 : decode cX13_meet 10 = .ok (.ifCond .ne 5, 3) := by decide +kernel
theorem dX13_meet_13 : decode cX13_meet 13 = .ok (.iconst (-1), 1) := by decide +kernel
theorem dX13_meet_14 : decode cX13_meet 14 = .ok (.ireturn, 1) := by decide +kernel
theorem dX13_meet_15 : decode cX13_meet 15 = .ok (.iconst 0, 1) := by decide +kernel
theorem dX13_meet_16 : decode cX13_meet 16 = .ok (.istore_n 2, 1) := by decide +kernel
theorem dX13_meet_17 : decode cX13_meet 17 = .ok (.iconst 0, 1) := by decide +kernel
theorem dX13_meet_18 : decode cX13_meet 18 = .ok (.istore_n 3, 1) := by decide +kernel
theorem dX13_meet_19 : decode cX13_meet 19 = .ok (.iload_n 3, 1) := by decide +kernel
theorem dX13_meet_20 : decode cX13_meet 20 = .ok (.aload_n 0, 1) := by decide +kernel
theorem dX13_meet_21 : decode cX13_meet 21 = .ok (.invokevirtual 320, 3) := by decide +kernel
theorem dX13_meet_24 : decode cX13_meet 24 = .ok (.if_icmp .ge 61, 3) := by decide +kernel
theorem dX13_meet_27 : decode cX13_meet 27 = .ok (.iload_n 3, 1) := by decide +kernel
theorem dX13_meet_28 : decode cX13_meet 28 = .ok (.iload_n 1, 1) := by decide +kernel
theorem dX13_meet_29 : decode cX13_meet 29 = .ok (.if_icmp .eq 32, 3) := by decide +kernel
theorem dX13_meet_32 : decode cX13_meet 32 = .ok (.aload_n 0, 1) := by decide +kernel
theorem dX13_meet_33 : decode cX13_meet 33 = .ok (.iload_n 1, 1) := by decide +kernel
theorem dX13_meet_34 : decode cX13_meet 34 = .ok (.iconst 3, 1) := by decide +kernel
theorem dX13_meet_35 : decode cX13_meet 35 = .ok (.invokevirtual 323, 3) := by decide +kernel
theorem dX13_meet_38 : decode cX13_meet 38 = .ok (.aload_n 0, 1) := by decide +kernel
theorem dX13_meet_39 : decode cX13_meet 39 = .ok (.iload_n 3, 1) := by decide +kernel
theorem dX13_meet_40 : decode cX13_meet 40 = .ok (.iconst 3, 1) := by decide +kernel
theorem dX13_meet_41 : decode cX13_meet 41 = .ok (.invokevirtual 323, 3) := by decide +kernel
theorem dX13_meet_44 : decode cX13_meet 44 = .ok (.iand, 1) := by decide +kernel
theorem dX13_meet_45 : decode cX13_meet 45 = .ok (.aload_n 0, 1) := by decide +kernel
theorem dX13_meet_46 : decode cX13_meet 46 = .ok (.getfield 125, 3) := by decide +kernel
theorem dX13_meet_49 : decode cX13_meet 49 = .ok (.iconst 1, 1) := by decide +kernel
theorem dX13_meet_50 : decode cX13_meet 50 = .ok (.iaload, 1) := by decide +kernel
theorem dX13_meet_51 : decode cX13_meet 51 = .ok (.iconst (-1), 1) := by decide +kernel
theorem dX13_meet_52 : decode cX13_meet 52 = .ok (.ixor, 1) := by decide +kernel
theorem dX13_meet_53 : decode cX13_meet 53 = .ok (.iand, 1) := by decide +kernel
theorem dX13_meet_54 : decode cX13_meet 54 = .ok (.ifCond .eq 7, 3) := by decide +kernel
theorem dX13_meet_57 : decode cX13_meet 57 = .ok (.iconst 1, 1) := by decide +kernel
theorem dX13_meet_58 : decode cX13_meet 58 = .ok (.goto 4, 3) := by decide +kernel
theorem dX13_meet_61 : decode cX13_meet 61 = .ok (.iconst 0, 1) := by decide +kernel
theorem dX13_meet_62 : decode cX13_meet 62 = .ok (.istore 4, 2) := by decide +kernel
theorem dX13_meet_64 : decode cX13_meet 64 = .ok (.iload_n 2, 1) := by decide +kernel
theorem dX13_meet_65 : decode cX13_meet 65 = .ok (.iload 4, 2) := by decide +kernel
theorem dX13_meet_67 : decode cX13_meet 67 = .ok (.ifCond .eq 9, 3) := by decide +kernel
theorem dX13_meet_70 : decode cX13_meet 70 = .ok (.iconst 1, 1) := by decide +kernel
theorem dX13_meet_71 : decode cX13_meet 71 = .ok (.iload_n 3, 1) := by decide +kernel
theorem dX13_meet_72 : decode cX13_meet 72 = .ok (.ishl, 1) := by decide +kernel
theorem dX13_meet_73 : decode cX13_meet 73 = .ok (.goto 4, 3) := by decide +kernel
theorem dX13_meet_76 : decode cX13_meet 76 = .ok (.iconst 0, 1) := by decide +kernel
theorem dX13_meet_77 : decode cX13_meet 77 = .ok (.ior, 1) := by decide +kernel
theorem dX13_meet_78 : decode cX13_meet 78 = .ok (.istore_n 2, 1) := by decide +kernel
theorem dX13_meet_79 : decode cX13_meet 79 = .ok (.iinc 3 1, 3) := by decide +kernel
theorem dX13_meet_82 : decode cX13_meet 82 = .ok (.goto (-63), 3) := by decide +kernel
theorem dX13_meet_85 : decode cX13_meet 85 = .ok (.iload_n 2, 1) := by decide +kernel
theorem dX13_meet_86 : decode cX13_meet 86 = .ok (.ireturn, 1) := by decide +kernel
theorem dX13_joined_0 : decode cX13_joined 0 = .ok (.aload_n 0, 1) := by decide +kernel
theorem dX13_joined_1 : decode cX13_joined 1 = .ok (.iconst 0, 1) := by decide +kernel
theorem dX13_joined_2 : decode cX13_joined 2 = .ok (.putfield 1, 3) := by decide +kernel
theorem dX13_joined_5 : decode cX13_joined 5 = .ok (.aload_n 0, 1) := by decide +kernel
theorem dX13_joined_6 : decode cX13_joined 6 = .ok (.iconst 0, 1) := by decide +kernel
theorem dX13_joined_7 : decode cX13_joined 7 = .ok (.iload_n 1, 1) := by decide +kernel
theorem dX13_joined_8 : decode cX13_joined 8 = .ok (.invokevirtual 345, 3) := by decide +kernel
theorem dX13_joined_11 : decode cX13_joined 11 = .ok (.ifCond .eq 12, 3) := by decide +kernel
theorem dX13_joined_14 : decode cX13_joined 14 = .ok (.iload_n 2, 1) := by decide +kernel
theorem dX13_joined_15 : decode cX13_joined 15 = .ok (.iconst 0, 1) := by decide +kernel
theorem dX13_joined_16 : decode cX13_joined 16 = .ok (.iconst 1, 1) := by decide +kernel
theorem dX13_joined_17 : decode cX13_joined 17 = .ok (.invokestatic 231, 3) := by decide +kernel
theorem dX13_joined_20 : decode cX13_joined 20 = .ok (.ifCond .ne 6, 3) := by decide +kernel
theorem dX13_joined_23 : decode cX13_joined 23 = .ok (.bipush (-2), 2) := by decide +kernel
theorem dX13_joined_25 : decode cX13_joined 25 = .ok (.ireturn, 1) := by decide +kernel
theorem dX13_joined_26 : decode cX13_joined 26 = .ok (.iconst 0, 1) := by decide +kernel
theorem dX13_joined_27 : decode cX13_joined 27 = .ok (.istore_n 3, 1) := by decide +kernel
theorem dX13_joined_28 : decode cX13_joined 28 = .ok (.iconst (-1), 1) := by decide +kernel
theorem dX13_joined_29 : decode cX13_joined 29 = .ok (.istore 4, 2) := by decide +kernel
theorem dX13_joined_31 : decode cX13_joined 31 = .ok (.iconst 0, 1) := by decide +kernel
theorem dX13_joined_32 : decode cX13_joined 32 = .ok (.istore 5, 2) := by decide +kernel
theorem dX13_joined_34 : decode cX13_joined 34 = .ok (.iload 5, 2) := by decide +kernel
theorem dX13_joined_36 : decode cX13_joined 36 = .ok (.aload_n 0, 1) := by decide +kernel
theorem dX13_joined_37 : decode cX13_joined 37 = .ok (.getfield 125, 3) := by decide +kernel
theorem dX13_joined_40 : decode cX13_joined 40 = .ok (.iconst 2, 1) := by decide +kernel
theorem dX13_joined_41 : decode cX13_joined 41 = .ok (.iaload, 1) := by decide +kernel
theorem dX13_joined_42 : decode cX13_joined 42 = .ok (.if_icmp .ge 110, 3) := by decide +kernel
theorem dX13_joined_45 : decode cX13_joined 45 = .ok (.iload 5, 2) := by decide +kernel
theorem dX13_joined_47 : decode cX13_joined 47 = .ok (.iconst 1, 1) := by decide +kernel
theorem dX13_joined_48 : decode cX13_joined 48 = .ok (.iadd, 1) := by decide +kernel
theorem dX13_joined_49 : decode cX13_joined 49 = .ok (.istore 6, 2) := by decide +kernel
theorem dX13_joined_51 : decode cX13_joined 51 = .ok (.iload 6, 2) := by decide +kernel
theorem dX13_joined_53 : decode cX13_joined 53 = .ok (.aload_n 0, 1) := by decide +kernel
theorem dX13_joined_54 : decode cX13_joined 54 = .ok (.getfield 125, 3) := by decide +kernel
theorem dX13_joined_57 : decode cX13_joined 57 = .ok (.iconst 2, 1) := by decide +kernel
theorem dX13_joined_58 : decode cX13_joined 58 = .ok (.iaload, 1) := by decide +kernel
theorem dX13_joined_59 : decode cX13_joined 59 = .ok (.if_icmp .ge 87, 3) := by decide +kernel
theorem dX13_joined_62 : decode cX13_joined 62 = .ok (.aload_n 0, 1) := by decide +kernel
theorem dX13_joined_63 : decode cX13_joined 63 = .ok (.getfield 125, 3) := by decide +kernel
theorem dX13_joined_66 : decode cX13_joined 66 = .ok (.iconst 3, 1) := by decide +kernel
theorem dX13_joined_67 : decode cX13_joined 67 = .ok (.iload_n 1, 1) := by decide +kernel
theorem dX13_joined_68 : decode cX13_joined 68 = .ok (.iadd, 1) := by decide +kernel
theorem dX13_joined_69 : decode cX13_joined 69 = .ok (.iaload, 1) := by decide +kernel
theorem dX13_joined_70 : decode cX13_joined 70 = .ok (.aload_n 0, 1) := by decide +kernel
theorem dX13_joined_71 : decode cX13_joined 71 = .ok (.getfield 125, 3) := by decide +kernel
theorem dX13_joined_74 : decode cX13_joined 74 = .ok (.iconst 3, 1) := by decide +kernel
theorem dX13_joined_75 : decode cX13_joined 75 = .ok (.iload 5, 2) := by decide +kernel
theorem dX13_joined_77 : decode cX13_joined 77 = .ok (.iadd, 1) := by decide +kernel
theorem dX13_joined_78 : decode cX13_joined 78 = .ok (.iaload, 1) := by decide +kernel
theorem dX13_joined_79 : decode cX13_joined 79 = .ok (.ixor, 1) := by decide +kernel
theorem dX13_joined_80 : decode cX13_joined 80 = .ok (.aload_n 0, 1) := by decide +kernel
theorem dX13_joined_81 : decode cX13_joined 81 = .ok (.getfield 125, 3) := by decide +kernel
theorem dX13_joined_84 : decode cX13_joined 84 = .ok (.iconst 3, 1) := by decide +kernel
theorem dX13_joined_85 : decode cX13_joined 85 = .ok (.iload_n 1, 1) := by decide +kernel
theorem dX13_joined_86 : decode cX13_joined 86 = .ok (.iadd, 1) := by decide +kernel
theorem dX13_joined_87 : decode cX13_joined 87 = .ok (.iaload, 1) := by decide +kernel
theorem dX13_joined_88 : decode cX13_joined 88 = .ok (.aload_n 0, 1) := by decide +kernel
theorem dX13_joined_89 : decode cX13_joined 89 = .ok (.getfield 125, 3) := by decide +kernel
theorem dX13_joined_92 : decode cX13_joined 92 = .ok (.iconst 3, 1) := by decide +kernel
theorem dX13_joined_93 : decode cX13_joined 93 = .ok (.iload 6, 2) := by decide +kernel
theorem dX13_joined_95 : decode cX13_joined 95 = .ok (.iadd, 1) := by decide +kernel
theorem dX13_joined_96 : decode cX13_joined 96 = .ok (.iaload, 1) := by decide +kernel
theorem dX13_joined_97 : decode cX13_joined 97 = .ok (.ixor, 1) := by decide +kernel
theorem dX13_joined_98 : decode cX13_joined 98 = .ok (.iand, 1) := by decide +kernel
theorem dX13_joined_99 : decode cX13_joined 99 = .ok (.istore 7, 2) := by decide +kernel
theorem dX13_joined_101 : decode cX13_joined 101 = .ok (.iload 5, 2) := by decide +kernel
theorem dX13_joined_103 : decode cX13_joined 103 = .ok (.iload_n 1, 1) := by decide +kernel
theorem dX13_joined_104 : decode cX13_joined 104 = .ok (.if_icmp .eq 36, 3) := by decide +kernel
theorem dX13_joined_107 : decode cX13_joined 107 = .ok (.iload 6, 2) := by decide +kernel
theorem dX13_joined_109 : decode cX13_joined 109 = .ok (.iload_n 1, 1) := by decide +kernel
theorem dX13_joined_110 : decode cX13_joined 110 = .ok (.if_icmp .eq 30, 3) := by decide +kernel
theorem dX13_joined_113 : decode cX13_joined 113 = .ok (.iload 7, 2) := by decide +kernel
theorem dX13_joined_115 : decode cX13_joined 115 = .ok (.ifCond .ne 25, 3) := by decide +kernel
theorem dX13_joined_118 : decode cX13_joined 118 = .ok (.iload_n 3, 1) := by decide +kernel
theorem dX13_joined_119 : decode cX13_joined 119 = .ok (.ifCond .ne 14, 3) := by decide +kernel
theorem dX13_joined_122 : decode cX13_joined 122 = .ok (.bipush 8, 2) := by decide +kernel
theorem dX13_joined_124 : decode cX13_joined 124 = .ok (.iload 5, 2) := by decide +kernel
theorem dX13_joined_126 : decode cX13_joined 126 = .ok (.imul, 1) := by decide +kernel
theorem dX13_joined_127 : decode cX13_joined 127 = .ok (.iload 6, 2) := by decide +kernel
theorem dX13_joined_129 : decode cX13_joined 129 = .ok (.iadd, 1) := by decide +kernel
theorem dX13_joined_130 : decode cX13_joined 130 = .ok (.goto 5, 3) := by decide +kernel
theorem dX13_joined_133 : decode cX13_joined 133 = .ok (.iload 4, 2) := by decide +kernel
theorem dX13_joined_135 : decode cX13_joined 135 = .ok (.istore 4, 2) := by decide +kernel
theorem dX13_joined_137 : decode cX13_joined 137 = .ok (.iinc 3 1, 3) := by decide +kernel
theorem dX13_joined_140 : decode cX13_joined 140 = .ok (.iinc 6 1, 3) := by decide +kernel
theorem dX13_joined_143 : decode cX13_joined 143 = .ok (.goto (-92), 3) := by decide +kernel
theorem dX13_joined_146 : decode cX13_joined 146 = .ok (.iinc 5 1, 3) := by decide +kernel
theorem dX13_joined_149 : decode cX13_joined 149 = .ok (.goto (-115), 3) := by decide +kernel
theorem dX13_joined_152 : decode cX13_joined 152 = .ok (.iload_n 2, 1) := by decide +kernel
theorem dX13_joined_153 : decode cX13_joined 153 = .ok (.ifCond .ne 7, 3) := by decide +kernel
theorem dX13_joined_156 : decode cX13_joined 156 = .ok (.iload_n 3, 1) := by decide +kernel
theorem dX13_joined_157 : decode cX13_joined 157 = .ok (.goto 5, 3) := by decide +kernel
theorem dX13_joined_160 : decode cX13_joined 160 = .ok (.iload 4, 2) := by decide +kernel
theorem dX13_joined_162 : decode cX13_joined 162 = .ok (.ireturn, 1) := by decide +kernel
theorem dX13_look_0 : decode cX13_look 0 = .ok (.aload_n 0, 1) := by decide +kernel
theorem dX13_look_1 : decode cX13_look 1 = .ok (.iconst 0, 1) := by decide +kernel
theorem dX13_look_2 : decode cX13_look 2 = .ok (.putfield 1, 3) := by decide +kernel
theorem dX13_look_5 : decode cX13_look 5 = .ok (.aload_n 0, 1) := by decide +kernel
theorem dX13_look_6 : decode cX13_look 6 = .ok (.iload_n 1, 1) := by decide +kernel
theorem dX13_look_7 : decode cX13_look 7 = .ok (.invokevirtual 379, 3) := by decide +kernel
theorem dX13_look_10 : decode cX13_look 10 = .ok (.ifCond .eq 15, 3) := by decide +kernel
theorem dX13_look_13 : decode cX13_look 13 = .ok (.aload_n 0, 1) := by decide +kernel
theorem dX13_look_14 : decode cX13_look 14 = .ok (.getfield 125, 3) := by decide +kernel
theorem dX13_look_17 : decode cX13_look 17 = .ok (.bipush 48, 2) := by decide +kernel
theorem dX13_look_19 : decode cX13_look 19 = .ok (.iaload, 1) := by decide +kernel
theorem dX13_look_20 : decode cX13_look 20 = .ok (.bipush 8, 2) := by decide +kernel
theorem dX13_look_22 : decode cX13_look 22 = .ok (.if_icmp .ne 5, 3) := by decide +kernel
theorem dX13_look_25 : decode cX13_look 25 = .ok (.iconst 0, 1) := by decide +kernel
theorem dX13_look_26 : decode cX13_look 26 = .ok (.ireturn, 1) := by decide +kernel
theorem dX13_look_27 : decode cX13_look 27 = .ok (.aload_n 0, 1) := by decide +kernel
theorem dX13_look_28 : decode cX13_look 28 = .ok (.getfield 125, 3) := by decide +kernel
theorem dX13_look_31 : decode cX13_look 31 = .ok (.bipush 49, 2) := by decide +kernel
theorem dX13_look_33 : decode cX13_look 33 = .ok (.iconst 2, 1) := by decide +kernel
theorem dX13_look_34 : decode cX13_look 34 = .ok (.aload_n 0, 1) := by decide +kernel
theorem dX13_look_35 : decode cX13_look 35 = .ok (.getfield 125, 3) := by decide +kernel
theorem dX13_look_38 : decode cX13_look 38 = .ok (.bipush 48, 2) := by decide +kernel
theorem dX13_look_40 : decode cX13_look 40 = .ok (.iaload, 1) := by decide +kernel
theorem dX13_look_41 : decode cX13_look 41 = .ok (.imul, 1) := by decide +kernel
theorem dX13_look_42 : decode cX13_look 42 = .ok (.iadd, 1) := by decide +kernel
theorem dX13_look_43 : decode cX13_look 43 = .ok (.iload_n 1, 1) := by decide +kernel
theorem dX13_look_44 : decode cX13_look 44 = .ok (.iastore, 1) := by decide +kernel
theorem dX13_look_45 : decode cX13_look 45 = .ok (.aload_n 0, 1) := by decide +kernel
theorem dX13_look_46 : decode cX13_look 46 = .ok (.getfield 125, 3) := by decide +kernel
theorem dX13_look_49 : decode cX13_look 49 = .ok (.bipush 49, 2) := by decide +kernel
theorem dX13_look_51 : decode cX13_look 51 = .ok (.iconst 2, 1) := by decide +kernel
theorem dX13_look_52 : decode cX13_look 52 = .ok (.aload_n 0, 1) := by decide +kernel
theorem dX13_look_53 : decode cX13_look 53 = .ok (.getfield 125, 3) := by decide +kernel
theorem dX13_look_56 : decode cX13_look 56 = .ok (.bipush 48, 2) := by decide +kernel
theorem dX13_look_58 : decode cX13_look 58 = .ok (.iaload, 1) := by decide +kernel
theorem dX13_look_59 : decode cX13_look 59 = .ok (.imul, 1) := by decide +kernel
theorem dX13_look_60 : decode cX13_look 60 = .ok (.iadd, 1) := by decide +kernel
theorem dX13_look_61 : decode cX13_look 61 = .ok (.iconst 1, 1) := by decide +kernel
theorem dX13_look_62 : decode cX13_look 62 = .ok (.iadd, 1) := by decide +kernel
theorem dX13_look_63 : decode cX13_look 63 = .ok (.iload_n 2, 1) := by decide +kernel
theorem dX13_look_64 : decode cX13_look 64 = .ok (.ifCond .eq 7, 3) := by decide +kernel
theorem dX13_look_67 : decode cX13_look 67 = .ok (.iconst 1, 1) := by decide +kernel
theorem dX13_look_68 : decode cX13_look 68 = .ok (.goto 4, 3) := by decide +kernel
theorem dX13_look_71 : decode cX13_look 71 = .ok (.iconst 0, 1) := by decide +kernel
theorem dX13_look_72 : decode cX13_look 72 = .ok (.iastore, 1) := by decide +kernel
theorem dX13_look_73 : decode cX13_look 73 = .ok (.aload_n 0, 1) := by decide +kernel
theorem dX13_look_74 : decode cX13_look 74 = .ok (.getfield 125, 3) := by decide +kernel
theorem dX13_look_77 : decode cX13_look 77 = .ok (.bipush 48, 2) := by decide +kernel
theorem dX13_look_79 : decode cX13_look 79 = .ok (.dup2, 1) := by decide +kernel
theorem dX13_look_80 : decode cX13_look 80 = .ok (.iaload, 1) := by decide +kernel
theorem dX13_look_81 : decode cX13_look 81 = .ok (.iconst 1, 1) := by decide +kernel
theorem dX13_look_82 : decode cX13_look 82 = .ok (.iadd, 1) := by decide +kernel
theorem dX13_look_83 : decode cX13_look 83 = .ok (.iastore, 1) := by decide +kernel
theorem dX13_look_84 : decode cX13_look 84 = .ok (.iconst 1, 1) := by decide +kernel
theorem dX13_look_85 : decode cX13_look 85 = .ok (.ireturn, 1) := by decide +kernel
theorem dX13_fitting_0 : decode cX13_fitting 0 = .ok (.iconst 0, 1) := by decide +kernel
theorem dX13_fitting_1 : decode cX13_fitting 1 = .ok (.istore_n 1, 1) := by decide +kernel
theorem dX13_fitting_2 : decode cX13_fitting 2 = .ok (.iconst 0, 1) := by decide +kernel
theorem dX13_fitting_3 : decode cX13_fitting 3 = .ok (.istore_n 2, 1) := by decide +kernel
theorem dX13_fitting_4 : decode cX13_fitting 4 = .ok (.iload_n 2, 1) := by decide +kernel
theorem dX13_fitting_5 : decode cX13_fitting 5 = .ok (.aload_n 0, 1) := by decide +kernel
theorem dX13_fitting_6 : decode cX13_fitting 6 = .ok (.getfield 125, 3) := by decide +kernel
theorem dX13_fitting_9 : decode cX13_fitting 9 = .ok (.iconst 2, 1) := by decide +kernel
theorem dX13_fitting_10 : decode cX13_fitting 10 = .ok (.iaload, 1) := by decide +kernel
theorem dX13_fitting_11 : decode cX13_fitting 11 = .ok (.if_icmp .ge 114, 3) := by decide +kernel
theorem dX13_fitting_14 : decode cX13_fitting 14 = .ok (.aload_n 0, 1) := by decide +kernel
theorem dX13_fitting_15 : decode cX13_fitting 15 = .ok (.getfield 125, 3) := by decide +kernel
theorem dX13_fitting_18 : decode cX13_fitting 18 = .ok (.bipush 11, 2) := by decide +kernel
theorem dX13_fitting_20 : decode cX13_fitting 20 = .ok (.iload_n 2, 1) := by decide +kernel
theorem dX13_fitting_21 : decode cX13_fitting 21 = .ok (.iadd, 1) := by decide +kernel
theorem dX13_fitting_22 : decode cX13_fitting 22 = .ok (.iaload, 1) := by decide +kernel
theorem dX13_fitting_23 : decode cX13_fitting 23 = .ok (.bipush 6, 2) := by decide +kernel
theorem dX13_fitting_25 : decode cX13_fitting 25 = .ok (.if_icmp .eq 7, 3) := by decide +kernel
theorem dX13_fitting_28 : decode cX13_fitting 28 = .ok (.iconst 1, 1) := by decide +kernel
theorem dX13_fitting_29 : decode cX13_fitting 29 = .ok (.goto 4, 3) := by decide +kernel
theorem dX13_fitting_32 : decode cX13_fitting 32 = .ok (.iconst 0, 1) := by decide +kernel
theorem dX13_fitting_33 : decode cX13_fitting 33 = .ok (.istore_n 3, 1) := by decide +kernel
theorem dX13_fitting_34 : decode cX13_fitting 34 = .ok (.iconst 0, 1) := by decide +kernel
theorem dX13_fitting_35 : decode cX13_fitting 35 = .ok (.istore 4, 2) := by decide +kernel
theorem dX13_fitting_37 : decode cX13_fitting 37 = .ok (.iload 4, 2) := by decide +kernel
theorem dX13_fitting_39 : decode cX13_fitting 39 = .ok (.aload_n 0, 1) := by decide +kernel
theorem dX13_fitting_40 : decode cX13_fitting 40 = .ok (.getfield 125, 3) := by decide +kernel
theorem dX13_fitting_43 : decode cX13_fitting 43 = .ok (.bipush 48, 2) := by decide +kernel
theorem dX13_fitting_45 : decode cX13_fitting 45 = .ok (.iaload, 1) := by decide +kernel
theorem dX13_fitting_46 : decode cX13_fitting 46 = .ok (.if_icmp .ge 59, 3) := by decide +kernel
theorem dX13_fitting_49 : decode cX13_fitting 49 = .ok (.iload_n 3, 1) := by decide +kernel
theorem dX13_fitting_50 : decode cX13_fitting 50 = .ok (.ifCond .eq 47, 3) := by decide +kernel
theorem dX13_fitting_53 : decode cX13_fitting 53 = .ok (.aload_n 0, 1) := by decide +kernel
theorem dX13_fitting_54 : decode cX13_fitting 54 = .ok (.getfield 125, 3) := by decide +kernel
theorem dX13_fitting_57 : decode cX13_fitting 57 = .ok (.iconst 3, 1) := by decide +kernel
theorem dX13_fitting_58 : decode cX13_fitting 58 = .ok (.iload_n 2, 1) := by decide +kernel
theorem dX13_fitting_59 : decode cX13_fitting 59 = .ok (.iadd, 1) := by decide +kernel
theorem dX13_fitting_60 : decode cX13_fitting 60 = .ok (.iaload, 1) := by decide +kernel
theorem dX13_fitting_61 : decode cX13_fitting 61 = .ok (.aload_n 0, 1) := by decide +kernel
theorem dX13_fitting_62 : decode cX13_fitting 62 = .ok (.getfield 125, 3) := by decide +kernel
theorem dX13_fitting_65 : decode cX13_fitting 65 = .ok (.bipush 49, 2) := by decide +kernel
theorem dX13_fitting_67 : decode cX13_fitting 67 = .ok (.iconst 2, 1) := by decide +kernel
theorem dX13_fitting_68 : decode cX13_fitting 68 = .ok (.iload 4, 2) := by decide +kernel
theorem dX13_fitting_70 : decode cX13_fitting 70 = .ok (.imul, 1) := by decide +kernel
theorem dX13_fitting_71 : decode cX13_fitting 71 = .ok (.iadd, 1) := by decide +kernel
theorem dX13_fitting_72 : decode cX13_fitting 72 = .ok (.iaload, 1) := by decide +kernel
theorem dX13_fitting_73 : decode cX13_fitting 73 = .ok (.ishr, 1) := by decide +kernel
theorem dX13_fitting_74 : decode cX13_fitting 74 = .ok (.iconst 1, 1) := by decide +kernel
theorem dX13_fitting_75 : decode cX13_fitting 75 = .ok (.iand, 1) := by decide +kernel
theorem dX13_fitting_76 : decode cX13_fitting 76 = .ok (.aload_n 0, 1) := by decide +kernel
theorem dX13_fitting_77 : decode cX13_fitting 77 = .ok (.getfield 125, 3) := by decide +kernel
theorem dX13_fitting_80 : decode cX13_fitting 80 = .ok (.bipush 49, 2) := by decide +kernel
theorem dX13_fitting_82 : decode cX13_fitting 82 = .ok (.iconst 2, 1) := by decide +kernel
theorem dX13_fitting_83 : decode cX13_fitting 83 = .ok (.iload 4, 2) := by decide +kernel
theorem dX13_fitting_85 : decode cX13_fitting 85 = .ok (.imul, 1) := by decide +kernel
theorem dX13_fitting_86 : decode cX13_fitting 86 = .ok (.iadd, 1) := by decide +kernel
theorem dX13_fitting_87 : decode cX13_fitting 87 = .ok (.iconst 1, 1) := by decide +kernel
theorem dX13_fitting_88 : decode cX13_fitting 88 = .ok (.iadd, 1) := by decide +kernel
theorem dX13_fitting_89 : decode cX13_fitting 89 = .ok (.iaload, 1) := by decide +kernel
theorem dX13_fitting_90 : decode cX13_fitting 90 = .ok (.if_icmp .ne 7, 3) := by decide +kernel
theorem dX13_fitting_93 : decode cX13_fitting 93 = .ok (.iconst 1, 1) := by decide +kernel
theorem dX13_fitting_94 : decode cX13_fitting 94 = .ok (.goto 4, 3) := by decide +kernel
theorem dX13_fitting_97 : decode cX13_fitting 97 = .ok (.iconst 0, 1) := by decide +kernel
theorem dX13_fitting_98 : decode cX13_fitting 98 = .ok (.istore_n 3, 1) := by decide +kernel
theorem dX13_fitting_99 : decode cX13_fitting 99 = .ok (.iinc 4 1, 3) := by decide +kernel
theorem dX13_fitting_102 : decode cX13_fitting 102 = .ok (.goto (-65), 3) := by decide +kernel
theorem dX13_fitting_105 : decode cX13_fitting 105 = .ok (.iload_n 1, 1) := by decide +kernel
theorem dX13_fitting_106 : decode cX13_fitting 106 = .ok (.iload_n 3, 1) := by decide +kernel
theorem dX13_fitting_107 : decode cX13_fitting 107 = .ok (.ifCond .eq 9, 3) := by decide +kernel
theorem dX13_fitting_110 : decode cX13_fitting 110 = .ok (.iconst 1, 1) := by decide +kernel
theorem dX13_fitting_111 : decode cX13_fitting 111 = .ok (.iload_n 2, 1) := by decide +kernel
theorem dX13_fitting_112 : decode cX13_fitting 112 = .ok (.ishl, 1) := by decide +kernel
theorem dX13_fitting_113 : decode cX13_fitting 113 = .ok (.goto 4, 3) := by decide +kernel
theorem dX13_fitting_116 : decode cX13_fitting 116 = .ok (.iconst 0, 1) := by decide +kernel
theorem dX13_fitting_117 : decode cX13_fitting 117 = .ok (.ior, 1) := by decide +kernel
theorem dX13_fitting_118 : decode cX13_fitting 118 = .ok (.istore_n 1, 1) := by decide +kernel
theorem dX13_fitting_119 : decode cX13_fitting 119 = .ok (.iinc 2 1, 3) := by decide +kernel
theorem dX13_fitting_122 : decode cX13_fitting 122 = .ok (.goto (-118), 3) := by decide +kernel
theorem dX13_fitting_125 : decode cX13_fitting 125 = .ok (.iload_n 1, 1) := by decide +kernel
theorem dX13_fitting_126 : decode cX13_fitting 126 = .ok (.ireturn, 1) := by decide +kernel
theorem dX13_fits_0 : decode cX13_fits 0 = .ok (.aload_n 0, 1) := by decide +kernel
theorem dX13_fits_1 : decode cX13_fits 1 = .ok (.iconst 0, 1) := by decide +kernel
theorem dX13_fits_2 : decode cX13_fits 2 = .ok (.putfield 1, 3) := by decide +kernel
theorem dX13_fits_5 : decode cX13_fits 5 = .ok (.aload_n 0, 1) := by decide +kernel
theorem dX13_fits_6 : decode cX13_fits 6 = .ok (.invokevirtual 424, 3) := by decide +kernel
theorem dX13_fits_9 : decode cX13_fits 9 = .ok (.ireturn, 1) := by decide +kernel
theorem dX13_ask_0 : decode cX13_ask 0 = .ok (.aload_n 0, 1) := by decide +kernel
theorem dX13_ask_1 : decode cX13_ask 1 = .ok (.iconst 0, 1) := by decide +kernel
theorem dX13_ask_2 : decode cX13_ask 2 = .ok (.putfield 1, 3) := by decide +kernel
theorem dX13_ask_5 : decode cX13_ask 5 = .ok (.aload_n 0, 1) := by decide +kernel
theorem dX13_ask_6 : decode cX13_ask 6 = .ok (.invokevirtual 424, 3) := by decide +kernel
theorem dX13_ask_9 : decode cX13_ask 9 = .ok (.istore_n 1, 1) := by decide +kernel
theorem dX13_ask_10 : decode cX13_ask 10 = .ok (.iconst (-1), 1) := by decide +kernel
theorem dX13_ask_11 : decode cX13_ask 11 = .ok (.istore_n 2, 1) := by decide +kernel
theorem dX13_ask_12 : decode cX13_ask 12 = .ok (.iload_n 1, 1) := by decide +kernel
theorem dX13_ask_13 : decode cX13_ask 13 = .ok (.invokestatic 339, 3) := by decide +kernel
theorem dX13_ask_16 : decode cX13_ask 16 = .ok (.istore_n 3, 1) := by decide +kernel
theorem dX13_ask_17 : decode cX13_ask 17 = .ok (.iconst 0, 1) := by decide +kernel
theorem dX13_ask_18 : decode cX13_ask 18 = .ok (.istore 4, 2) := by decide +kernel
theorem dX13_ask_20 : decode cX13_ask 20 = .ok (.iload 4, 2) := by decide +kernel
theorem dX13_ask_22 : decode cX13_ask 22 = .ok (.aload_n 0, 1) := by decide +kernel
theorem dX13_ask_23 : decode cX13_ask 23 = .ok (.invokevirtual 336, 3) := by decide +kernel
theorem dX13_ask_26 : decode cX13_ask 26 = .ok (.if_icmp .ge 118, 3) := by decide +kernel
theorem dX13_ask_29 : decode cX13_ask 29 = .ok (.iconst 0, 1) := by decide +kernel
theorem dX13_ask_30 : decode cX13_ask 30 = .ok (.istore 5, 2) := by decide +kernel
theorem dX13_ask_32 : decode cX13_ask 32 = .ok (.iconst 0, 1) := by decide +kernel
theorem dX13_ask_33 : decode cX13_ask 33 = .ok (.istore 6, 2) := by decide +kernel
theorem dX13_ask_35 : decode cX13_ask 35 = .ok (.iload 6, 2) := by decide +kernel
theorem dX13_ask_37 : decode cX13_ask 37 = .ok (.bipush 8, 2) := by decide +kernel
theorem dX13_ask_39 : decode cX13_ask 39 = .ok (.if_icmp .ge 47, 3) := by decide +kernel
theorem dX13_ask_42 : decode cX13_ask 42 = .ok (.iload 5, 2) := by decide +kernel
theorem dX13_ask_44 : decode cX13_ask 44 = .ok (.iload_n 1, 1) := by decide +kernel
theorem dX13_ask_45 : decode cX13_ask 45 = .ok (.iload 6, 2) := by decide +kernel
theorem dX13_ask_47 : decode cX13_ask 47 = .ok (.ishr, 1) := by decide +kernel
theorem dX13_ask_48 : decode cX13_ask 48 = .ok (.iconst 1, 1) := by decide +kernel
theorem dX13_ask_49 : decode cX13_ask 49 = .ok (.iand, 1) := by decide +kernel
theorem dX13_ask_50 : decode cX13_ask 50 = .ok (.iconst 1, 1) := by decide +kernel
theorem dX13_ask_51 : decode cX13_ask 51 = .ok (.if_icmp .ne 25, 3) := by decide +kernel
theorem dX13_ask_54 : decode cX13_ask 54 = .ok (.aload_n 0, 1) := by decide +kernel
theorem dX13_ask_55 : decode cX13_ask 55 = .ok (.getfield 125, 3) := by decide +kernel
theorem dX13_ask_58 : decode cX13_ask 58 = .ok (.iconst 3, 1) := by decide +kernel
theorem dX13_ask_59 : decode cX13_ask 59 = .ok (.iload 6, 2) := by decide +kernel
theorem dX13_ask_61 : decode cX13_ask 61 = .ok (.iadd, 1) := by decide +kernel
theorem dX13_ask_62 : decode cX13_ask 62 = .ok (.iaload, 1) := by decide +kernel
theorem dX13_ask_63 : decode cX13_ask 63 = .ok (.iload 4, 2) := by decide +kernel
theorem dX13_ask_65 : decode cX13_ask 65 = .ok (.ishr, 1) := by decide +kernel
theorem dX13_ask_66 : decode cX13_ask 66 = .ok (.iconst 1, 1) := by decide +kernel
theorem dX13_ask_67 : decode cX13_ask 67 = .ok (.iand, 1) := by decide +kernel
theorem dX13_ask_68 : decode cX13_ask 68 = .ok (.iconst 1, 1) := by decide +kernel
theorem dX13_ask_69 : decode cX13_ask 69 = .ok (.if_icmp .ne 7, 3) := by decide +kernel
theorem dX13_ask_72 : decode cX13_ask 72 = .ok (.iconst 1, 1) := by decide +kernel
theorem dX13_ask_73 : decode cX13_ask 73 = .ok (.goto 4, 3) := by decide +kernel
theorem dX13_ask_76 : decode cX13_ask 76 = .ok (.iconst 0, 1) := by decide +kernel
theorem dX13_ask_77 : decode cX13_ask 77 = .ok (.iadd, 1) := by decide +kernel
theorem dX13_ask_78 : decode cX13_ask 78 = .ok (.istore 5, 2) := by decide +kernel
theorem dX13_ask_80 : decode cX13_ask 80 = .ok (.iinc 6 1, 3) := by decide +kernel
theorem dX13_ask_83 : decode cX13_ask 83 = .ok (.goto (-48), 3) := by decide +kernel
theorem dX13_ask_86 : decode cX13_ask 86 = .ok (.iload 5, 2) := by decide +kernel
theorem dX13_ask_88 : decode cX13_ask 88 = .ok (.iload_n 1, 1) := by decide +kernel
theorem dX13_ask_89 : decode cX13_ask 89 = .ok (.invokestatic 339, 3) := by decide +kernel
theorem dX13_ask_92 : decode cX13_ask 92 = .ok (.iload 5, 2) := by decide +kernel
theorem dX13_ask_94 : decode cX13_ask 94 = .ok (.isub, 1) := by decide +kernel
theorem dX13_ask_95 : decode cX13_ask 95 = .ok (.if_icmp .le 8, 3) := by decide +kernel
theorem dX13_ask_98 : decode cX13_ask 98 = .ok (.iload 5, 2) := by decide +kernel
theorem dX13_ask_100 : decode cX13_ask 100 = .ok (.goto 10, 3) := by decide +kernel
theorem dX13_ask_103 : decode cX13_ask 103 = .ok (.iload_n 1, 1) := by decide +kernel
theorem dX13_ask_104 : decode cX13_ask 104 = .ok (.invokestatic 339, 3) := by decide +kernel
theorem dX13_ask_107 : decode cX13_ask 107 = .ok (.iload 5, 2) := by decide +kernel
theorem dX13_ask_109 : decode cX13_ask 109 = .ok (.isub, 1) := by decide +kernel
theorem dX13_ask_110 : decode cX13_ask 110 = .ok (.istore 6, 2) := by decide +kernel
theorem dX13_ask_112 : decode cX13_ask 112 = .ok (.iload 6, 2) := by decide +kernel
theorem dX13_ask_114 : decode cX13_ask 114 = .ok (.iload_n 3, 1) := by decide +kernel
theorem dX13_ask_115 : decode cX13_ask 115 = .ok (.if_icmp .ge 8, 3) := by decide +kernel
theorem dX13_ask_118 : decode cX13_ask 118 = .ok (.iload 4, 2) := by decide +kernel
theorem dX13_ask_120 : decode cX13_ask 120 = .ok (.goto 4, 3) := by decide +kernel
theorem dX13_ask_123 : decode cX13_ask 123 = .ok (.iload_n 2, 1) := by decide +kernel
theorem dX13_ask_124 : decode cX13_ask 124 = .ok (.istore_n 2, 1) := by decide +kernel
theorem dX13_ask_125 : decode cX13_ask 125 = .ok (.iload 6, 2) := by decide +kernel
theorem dX13_ask_127 : decode cX13_ask 127 = .ok (.iload_n 3, 1) := by decide +kernel
theorem dX13_ask_128 : decode cX13_ask 128 = .ok (.if_icmp .ge 8, 3) := by decide +kernel
theorem dX13_ask_131 : decode cX13_ask 131 = .ok (.iload 6, 2) := by decide +kernel
theorem dX13_ask_133 : decode cX13_ask 133 = .ok (.goto 4, 3) := by decide +kernel
theorem dX13_ask_136 : decode cX13_ask 136 = .ok (.iload_n 3, 1) := by decide +kernel
theorem dX13_ask_137 : decode cX13_ask 137 = .ok (.istore_n 3, 1) := by decide +kernel
theorem dX13_ask_138 : decode cX13_ask 138 = .ok (.iinc 4 1, 3) := by decide +kernel
theorem dX13_ask_141 : decode cX13_ask 141 = .ok (.goto (-121), 3) := by decide +kernel
theorem dX13_ask_144 : decode cX13_ask 144 = .ok (.iload_n 2, 1) := by decide +kernel
theorem dX13_ask_145 : decode cX13_ask 145 = .ok (.ireturn, 1) := by decide +kernel
theorem dX13_price_0 : decode cX13_price 0 = .ok (.aload_n 0, 1) := by decide +kernel
theorem dX13_price_1 : decode cX13_price 1 = .ok (.iconst 0, 1) := by decide +kernel
theorem dX13_price_2 : decode cX13_price 2 = .ok (.putfield 1, 3) := by decide +kernel
theorem dX13_price_5 : decode cX13_price 5 = .ok (.aload_n 0, 1) := by decide +kernel
theorem dX13_price_6 : decode cX13_price 6 = .ok (.invokevirtual 424, 3) := by decide +kernel
theorem dX13_price_9 : decode cX13_price 9 = .ok (.istore_n 1, 1) := by decide +kernel
theorem dX13_price_10 : decode cX13_price 10 = .ok (.iconst 0, 1) := by decide +kernel
theorem dX13_price_11 : decode cX13_price 11 = .ok (.istore_n 2, 1) := by decide +kernel
theorem dX13_price_12 : decode cX13_price 12 = .ok (.iconst 0, 1) := by decide +kernel
theorem dX13_price_13 : decode cX13_price 13 = .ok (.istore_n 3, 1) := by decide +kernel
theorem dX13_price_14 : decode cX13_price 14 = .ok (.iload_n 3, 1) := by decide +kernel
theorem dX13_price_15 : decode cX13_price 15 = .ok (.bipush 8, 2) := by decide +kernel
theorem dX13_price_17 : decode cX13_price 17 = .ok (.if_icmp .ge 31, 3) := by decide +kernel
theorem dX13_price_20 : decode cX13_price 20 = .ok (.iload_n 2, 1) := by decide +kernel
theorem dX13_price_21 : decode cX13_price 21 = .ok (.iload_n 1, 1) := by decide +kernel
theorem dX13_price_22 : decode cX13_price 22 = .ok (.iload_n 3, 1) := by decide +kernel
theorem dX13_price_23 : decode cX13_price 23 = .ok (.ishr, 1) := by decide +kernel
theorem dX13_price_24 : decode cX13_price 24 = .ok (.iconst 1, 1) := by decide +kernel
theorem dX13_price_25 : decode cX13_price 25 = .ok (.iand, 1) := by decide +kernel
theorem dX13_price_26 : decode cX13_price 26 = .ok (.iconst 1, 1) := by decide +kernel
theorem dX13_price_27 : decode cX13_price 27 = .ok (.if_icmp .ne 12, 3) := by decide +kernel
theorem dX13_price_30 : decode cX13_price 30 = .ok (.aload_n 0, 1) := by decide +kernel
theorem dX13_price_31 : decode cX13_price 31 = .ok (.iconst 0, 1) := by decide +kernel
theorem dX13_price_32 : decode cX13_price 32 = .ok (.iload_n 3, 1) := by decide +kernel
theorem dX13_price_33 : decode cX13_price 33 = .ok (.invokevirtual 349, 3) := by decide +kernel
theorem dX13_price_36 : decode cX13_price 36 = .ok (.goto 4, 3) := by decide +kernel
theorem dX13_price_39 : decode cX13_price 39 = .ok (.iconst 0, 1) := by decide +kernel
theorem dX13_price_40 : decode cX13_price 40 = .ok (.iadd, 1) := by decide +kernel
theorem dX13_price_41 : decode cX13_price 41 = .ok (.istore_n 2, 1) := by decide +kernel
theorem dX13_price_42 : decode cX13_price 42 = .ok (.iinc 3 1, 3) := by decide +kernel
theorem dX13_price_45 : decode cX13_price 45 = .ok (.goto (-31), 3) := by decide +kernel
theorem dX13_price_48 : decode cX13_price 48 = .ok (.iload_n 1, 1) := by decide +kernel
theorem dX13_price_49 : decode cX13_price 49 = .ok (.ifCond .ne 7, 3) := by decide +kernel
theorem dX13_price_52 : decode cX13_price 52 = .ok (.iconst (-1), 1) := by decide +kernel
theorem dX13_price_53 : decode cX13_price 53 = .ok (.goto 13, 3) := by decide +kernel
theorem dX13_price_56 : decode cX13_price 56 = .ok (.iload_n 2, 1) := by decide +kernel
theorem dX13_price_57 : decode cX13_price 57 = .ok (.sipush 1000, 3) := by decide +kernel
theorem dX13_price_60 : decode cX13_price 60 = .ok (.imul, 1) := by decide +kernel
theorem dX13_price_61 : decode cX13_price 61 = .ok (.iload_n 1, 1) := by decide +kernel
theorem dX13_price_62 : decode cX13_price 62 = .ok (.invokestatic 339, 3) := by decide +kernel
theorem dX13_price_65 : decode cX13_price 65 = .ok (.idiv, 1) := by decide +kernel
theorem dX13_price_66 : decode cX13_price 66 = .ok (.ireturn, 1) := by decide +kernel
theorem dX13_ways_0 : decode cX13_ways 0 = .ok (.iload_n 1, 1) := by decide +kernel
theorem dX13_ways_1 : decode cX13_ways 1 = .ok (.aload_n 0, 1) := by decide +kernel
theorem dX13_ways_2 : decode cX13_ways 2 = .ok (.getfield 125, 3) := by decide +kernel
theorem dX13_ways_5 : decode cX13_ways 5 = .ok (.iconst 2, 1) := by decide +kernel
theorem dX13_ways_6 : decode cX13_ways 6 = .ok (.iaload, 1) := by decide +kernel
theorem dX13_ways_7 : decode cX13_ways 7 = .ok (.if_icmp .ne 72, 3) := by decide +kernel
theorem dX13_ways_10 : decode cX13_ways 10 = .ok (.iconst 1, 1) := by decide +kernel
theorem dX13_ways_11 : decode cX13_ways 11 = .ok (.istore_n 2, 1) := by decide +kernel
theorem dX13_ways_12 : decode cX13_ways 12 = .ok (.iload_n 2, 1) := by decide +kernel
theorem dX13_ways_13 : decode cX13_ways 13 = .ok (.iload_n 1, 1) := by decide +kernel
theorem dX13_ways_14 : decode cX13_ways 14 = .ok (.if_icmp .ge 54, 3) := by decide +kernel
theorem dX13_ways_17 : decode cX13_ways 17 = .ok (.aload_n 0, 1) := by decide +kernel
theorem dX13_ways_18 : decode cX13_ways 18 = .ok (.getfield 147, 3) := by decide +kernel
theorem dX13_ways_21 : decode cX13_ways 21 = .ok (.iload_n 2, 1) := by decide +kernel
theorem dX13_ways_22 : decode cX13_ways 22 = .ok (.aload_n 0, 1) := by decide +kernel
theorem dX13_ways_23 : decode cX13_ways 23 = .ok (.getfield 427, 3) := by decide +kernel
theorem dX13_ways_26 : decode cX13_ways 26 = .ok (.ifCond .ne 12, 3) := by decide +kernel
theorem dX13_ways_29 : decode cX13_ways 29 = .ok (.aload_n 0, 1) := by decide +kernel
theorem dX13_ways_30 : decode cX13_ways 30 = .ok (.getfield 144, 3) := by decide +kernel
theorem dX13_ways_33 : decode cX13_ways 33 = .ok (.iload_n 2, 1) := by decide +kernel
theorem dX13_ways_34 : decode cX13_ways 34 = .ok (.iaload, 1) := by decide +kernel
theorem dX13_ways_35 : decode cX13_ways 35 = .ok (.goto 9, 3) := by decide +kernel
theorem dX13_ways_38 : decode cX13_ways 38 = .ok (.aload_n 0, 1) := by decide +kernel
theorem dX13_ways_39 : decode cX13_ways 39 = .ok (.getfield 147, 3) := by decide +kernel
theorem dX13_ways_42 : decode cX13_ways 42 = .ok (.iload_n 2, 1) := by decide +kernel
theorem dX13_ways_43 : decode cX13_ways 43 = .ok (.iaload, 1) := by decide +kernel
theorem dX13_ways_44 : decode cX13_ways 44 = .ok (.iastore, 1) := by decide +kernel
theorem dX13_ways_45 : decode cX13_ways 45 = .ok (.aload_n 0, 1) := by decide +kernel
theorem dX13_ways_46 : decode cX13_ways 46 = .ok (.getfield 150, 3) := by decide +kernel
theorem dX13_ways_49 : decode cX13_ways 49 = .ok (.iload_n 2, 1) := by decide +kernel
theorem dX13_ways_50 : decode cX13_ways 50 = .ok (.dup2, 1) := by decide +kernel
theorem dX13_ways_51 : decode cX13_ways 51 = .ok (.iaload, 1) := by decide +kernel
theorem dX13_ways_52 : decode cX13_ways 52 = .ok (.iconst 1, 1) := by decide +kernel
theorem dX13_ways_53 : decode cX13_ways 53 = .ok (.aload_n 0, 1) := by decide +kernel
theorem dX13_ways_54 : decode cX13_ways 54 = .ok (.getfield 144, 3) := by decide +kernel
theorem dX13_ways_57 : decode cX13_ways 57 = .ok (.iload_n 2, 1) := by decide +kernel
theorem dX13_ways_58 : decode cX13_ways 58 = .ok (.iaload, 1) := by decide +kernel
theorem dX13_ways_59 : decode cX13_ways 59 = .ok (.ishl, 1) := by decide +kernel
theorem dX13_ways_60 : decode cX13_ways 60 = .ok (.ior, 1) := by decide +kernel
theorem dX13_ways_61 : decode cX13_ways 61 = .ok (.iastore, 1) := by decide +kernel
theorem dX13_ways_62 : decode cX13_ways 62 = .ok (.iinc 2 1, 3) := by decide +kernel
theorem dX13_ways_65 : decode cX13_ways 65 = .ok (.goto (-53), 3) := by decide +kernel
theorem dX13_ways_68 : decode cX13_ways 68 = .ok (.aload_n 0, 1) := by decide +kernel
theorem dX13_ways_69 : decode cX13_ways 69 = .ok (.dup, 1) := by decide +kernel
theorem dX13_ways_70 : decode cX13_ways 70 = .ok (.getfield 427, 3) := by decide +kernel
theorem dX13_ways_73 : decode cX13_ways 73 = .ok (.iconst 1, 1) := by decide +kernel
theorem dX13_ways_74 : decode cX13_ways 74 = .ok (.iadd, 1) := by decide +kernel
theorem dX13_ways_75 : decode cX13_ways 75 = .ok (.putfield 427, 3) := by decide +kernel
theorem dX13_ways_78 : decode cX13_ways 78 = .ok (.return_, 1) := by decide +kernel
theorem dX13_ways_79 : decode cX13_ways 79 = .ok (.aload_n 0, 1) := by decide +kernel
theorem dX13_ways_80 : decode cX13_ways 80 = .ok (.iconst 0, 1) := by decide +kernel
theorem dX13_ways_81 : decode cX13_ways 81 = .ok (.aload_n 0, 1) := by decide +kernel
theorem dX13_ways_82 : decode cX13_ways 82 = .ok (.getfield 125, 3) := by decide +kernel
theorem dX13_ways_85 : decode cX13_ways 85 = .ok (.bipush 27, 2) := by decide +kernel
theorem dX13_ways_87 : decode cX13_ways 87 = .ok (.iload_n 1, 1) := by decide +kernel
theorem dX13_ways_88 : decode cX13_ways 88 = .ok (.iadd, 1) := by decide +kernel
theorem dX13_ways_89 : decode cX13_ways 89 = .ok (.iaload, 1) := by decide +kernel
theorem dX13_ways_90 : decode cX13_ways 90 = .ok (.aload_n 0, 1) := by decide +kernel
theorem dX13_ways_91 : decode cX13_ways 91 = .ok (.getfield 125, 3) := by decide +kernel
theorem dX13_ways_94 : decode cX13_ways 94 = .ok (.bipush 35, 2) := by decide +kernel
theorem dX13_ways_96 : decode cX13_ways 96 = .ok (.iload_n 1, 1) := by decide +kernel
theorem dX13_ways_97 : decode cX13_ways 97 = .ok (.iadd, 1) := by decide +kernel
theorem dX13_ways_98 : decode cX13_ways 98 = .ok (.iaload, 1) := by decide +kernel
theorem dX13_ways_99 : decode cX13_ways 99 = .ok (.invokevirtual 376, 3) := by decide +kernel
theorem dX13_ways_102 : decode cX13_ways 102 = .ok (.istore_n 2, 1) := by decide +kernel
theorem dX13_ways_103 : decode cX13_ways 103 = .ok (.iconst 0, 1) := by decide +kernel
theorem dX13_ways_104 : decode cX13_ways 104 = .ok (.istore_n 3, 1) := by decide +kernel
theorem dX13_ways_105 : decode cX13_ways 105 = .ok (.iload_n 3, 1) := by decide +kernel
theorem dX13_ways_106 : decode cX13_ways 106 = .ok (.aload_n 0, 1) := by decide +kernel
theorem dX13_ways_107 : decode cX13_ways 107 = .ok (.invokevirtual 320, 3) := by decide +kernel
theorem dX13_ways_110 : decode cX13_ways 110 = .ok (.if_icmp .ge 63, 3) := by decide +kernel
theorem dX13_ways_113 : decode cX13_ways 113 = .ok (.aload_n 0, 1) := by decide +kernel
theorem dX13_ways_114 : decode cX13_ways 114 = .ok (.getfield 141, 3) := by decide +kernel
theorem dX13_ways_117 : decode cX13_ways 117 = .ok (.iload_n 3, 1) := by decide +kernel
theorem dX13_ways_118 : decode cX13_ways 118 = .ok (.iaload, 1) := by decide +kernel
