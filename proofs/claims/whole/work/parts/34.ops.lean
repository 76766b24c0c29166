theorem o179_0 : zop 179 0 = some (.aload_n 1, 1) := by decide +kernel
theorem o179_1 : zop 179 1 = some (.sipush 166, 3) := by decide +kernel
theorem o179_4 : zop 179 4 = some (.iload_n 2, 1) := by decide +kernel
theorem o179_5 : zop 179 5 = some (.iadd, 1) := by decide +kernel
theorem o179_6 : zop 179 6 = some (.iaload, 1) := by decide +kernel
theorem o179_7 : zop 179 7 = some (.istore_n 3, 1) := by decide +kernel
theorem o179_8 : zop 179 8 = some (.iconst (-1), 1) := by decide +kernel
theorem o179_9 : zop 179 9 = some (.istore 4, 2) := by decide +kernel
theorem o179_11 : zop 179 11 = some (.iconst 0, 1) := by decide +kernel
theorem o179_12 : zop 179 12 = some (.istore 5, 2) := by decide +kernel
theorem o179_14 : zop 179 14 = some (.iload 5, 2) := by decide +kernel
theorem o179_16 : zop 179 16 = some (.aload_n 0, 1) := by decide +kernel
theorem o179_17 : zop 179 17 = some (.getfield 1003, 3) := by decide +kernel
theorem o179_20 : zop 179 20 = some (.iconst 1, 1) := by decide +kernel
theorem o179_21 : zop 179 21 = some (.iaload, 1) := by decide +kernel
theorem o179_22 : zop 179 22 = some (.if_icmp .ge 58, 3) := by decide +kernel
theorem o179_25 : zop 179 25 = some (.aload_n 1, 1) := by decide +kernel
theorem o179_26 : zop 179 26 = some (.iload 5, 2) := by decide +kernel
theorem o179_28 : zop 179 28 = some (.iaload, 1) := by decide +kernel
theorem o179_29 : zop 179 29 = some (.iload_n 3, 1) := by decide +kernel
theorem o179_30 : zop 179 30 = some (.if_icmp .ne 44, 3) := by decide +kernel
theorem o179_33 : zop 179 33 = some (.iload 4, 2) := by decide +kernel
theorem o179_35 : zop 179 35 = some (.iconst (-1), 1) := by decide +kernel
theorem o179_36 : zop 179 36 = some (.if_icmp .eq 34, 3) := by decide +kernel
theorem o179_39 : zop 179 39 = some (.aload_n 0, 1) := by decide +kernel
theorem o179_40 : zop 179 40 = some (.iload_n 2, 1) := by decide +kernel
theorem o179_41 : zop 179 41 = some (.iload 5, 2) := by decide +kernel
theorem o179_43 : zop 179 43 = some (.aload_n 1, 1) := by decide +kernel
theorem o179_44 : zop 179 44 = some (.bipush 40, 2) := by decide +kernel
theorem o179_46 : zop 179 46 = some (.iload 5, 2) := by decide +kernel
theorem o179_48 : zop 179 48 = some (.iadd, 1) := by decide +kernel
theorem o179_49 : zop 179 49 = some (.iaload, 1) := by decide +kernel
theorem o179_50 : zop 179 50 = some (.invokevirtual 180, 3) := by decide +kernel
theorem o179_53 : zop 179 53 = some (.aload_n 0, 1) := by decide +kernel
theorem o179_54 : zop 179 54 = some (.iload_n 2, 1) := by decide +kernel
theorem o179_55 : zop 179 55 = some (.iload 4, 2) := by decide +kernel
theorem o179_57 : zop 179 57 = some (.aload_n 1, 1) := by decide +kernel
theorem o179_58 : zop 179 58 = some (.bipush 40, 2) := by decide +kernel
theorem o179_60 : zop 179 60 = some (.iload 4, 2) := by decide +kernel
theorem o179_62 : zop 179 62 = some (.iadd, 1) := by decide +kernel
theorem o179_63 : zop 179 63 = some (.iaload, 1) := by decide +kernel
theorem o179_64 : zop 179 64 = some (.invokevirtual 180, 3) := by decide +kernel
theorem o179_67 : zop 179 67 = some (.if_icmp .le 7, 3) := by decide +kernel
theorem o179_70 : zop 179 70 = some (.iload 5, 2) := by decide +kernel
theorem o179_72 : zop 179 72 = some (.istore 4, 2) := by decide +kernel
theorem o179_74 : zop 179 74 = some (.iinc 5 1, 3) := by decide +kernel
theorem o179_77 : zop 179 77 = some (.goto (-63), 3) := by decide +kernel
theorem o179_80 : zop 179 80 = some (.iload 4, 2) := by decide +kernel
theorem o179_82 : zop 179 82 = some (.ireturn, 1) := by decide +kernel
theorem o180_0 : zop 180 0 = some (.aload_n 0, 1) := by decide +kernel
theorem o180_1 : zop 180 1 = some (.getfield 1008, 3) := by decide +kernel
theorem o180_4 : zop 180 4 = some (.iload_n 1, 1) := by decide +kernel
theorem o180_5 : zop 180 5 = some (.iaload, 1) := by decide +kernel
theorem o180_6 : zop 180 6 = some (.iconst 1, 1) := by decide +kernel
theorem o180_7 : zop 180 7 = some (.if_icmp .ne 12, 3) := by decide +kernel
theorem o180_10 : zop 180 10 = some (.aload_n 0, 1) := by decide +kernel
theorem o180_11 : zop 180 11 = some (.getfield 1007, 3) := by decide +kernel
theorem o180_14 : zop 180 14 = some (.iload_n 2, 1) := by decide +kernel
theorem o180_15 : zop 180 15 = some (.iaload, 1) := by decide +kernel
theorem o180_16 : zop 180 16 = some (.goto 33, 3) := by decide +kernel
theorem o180_19 : zop 180 19 = some (.aload_n 0, 1) := by decide +kernel
theorem o180_20 : zop 180 20 = some (.getfield 1008, 3) := by decide +kernel
theorem o180_23 : zop 180 23 = some (.iload_n 1, 1) := by decide +kernel
theorem o180_24 : zop 180 24 = some (.iaload, 1) := by decide +kernel
theorem o180_25 : zop 180 25 = some (.iconst 2, 1) := by decide +kernel
theorem o180_26 : zop 180 26 = some (.if_icmp .ne 22, 3) := by decide +kernel
theorem o180_29 : zop 180 29 = some (.aload_n 0, 1) := by decide +kernel
theorem o180_30 : zop 180 30 = some (.getfield 1006, 3) := by decide +kernel
theorem o180_33 : zop 180 33 = some (.iload_n 2, 1) := by decide +kernel
theorem o180_34 : zop 180 34 = some (.iaload, 1) := by decide +kernel
theorem o180_35 : zop 180 35 = some (.aload_n 0, 1) := by decide +kernel
theorem o180_36 : zop 180 36 = some (.getfield 1010, 3) := by decide +kernel
theorem o180_39 : zop 180 39 = some (.iload_n 1, 1) := by decide +kernel
theorem o180_40 : zop 180 40 = some (.iaload, 1) := by decide +kernel
theorem o180_41 : zop 180 41 = some (.if_icmp .ne 7, 3) := by decide +kernel
theorem o180_44 : zop 180 44 = some (.iconst 1, 1) := by decide +kernel
theorem o180_45 : zop 180 45 = some (.goto 4, 3) := by decide +kernel
theorem o180_48 : zop 180 48 = some (.iconst 0, 1) := by decide +kernel
theorem o180_49 : zop 180 49 = some (.istore 4, 2) := by decide +kernel
theorem o180_51 : zop 180 51 = some (.bipush 40, 2) := by decide +kernel
theorem o180_53 : zop 180 53 = some (.iload 4, 2) := by decide +kernel
theorem o180_55 : zop 180 55 = some (.imul, 1) := by decide +kernel
theorem o180_56 : zop 180 56 = some (.iload_n 3, 1) := by decide +kernel
theorem o180_57 : zop 180 57 = some (.iadd, 1) := by decide +kernel
theorem o180_58 : zop 180 58 = some (.ireturn, 1) := by decide +kernel
theorem o181_0 : zop 181 0 = some (.iconst 0, 1) := by decide +kernel
theorem o181_1 : zop 181 1 = some (.istore_n 3, 1) := by decide +kernel
theorem o181_2 : zop 181 2 = some (.iload_n 3, 1) := by decide +kernel
theorem o181_3 : zop 181 3 = some (.aload_n 0, 1) := by decide +kernel
theorem o181_4 : zop 181 4 = some (.getfield 1003, 3) := by decide +kernel
theorem o181_7 : zop 181 7 = some (.iconst 1, 1) := by decide +kernel
theorem o181_8 : zop 181 8 = some (.iaload, 1) := by decide +kernel
theorem o181_9 : zop 181 9 = some (.if_icmp .ge 43, 3) := by decide +kernel
theorem o181_12 : zop 181 12 = some (.aload_n 1, 1) := by decide +kernel
theorem o181_13 : zop 181 13 = some (.iload_n 3, 1) := by decide +kernel
theorem o181_14 : zop 181 14 = some (.iaload, 1) := by decide +kernel
theorem o181_15 : zop 181 15 = some (.aload_n 1, 1) := by decide +kernel
theorem o181_16 : zop 181 16 = some (.iload_n 2, 1) := by decide +kernel
theorem o181_17 : zop 181 17 = some (.iaload, 1) := by decide +kernel
theorem o181_18 : zop 181 18 = some (.if_icmp .ne 28, 3) := by decide +kernel
theorem o181_21 : zop 181 21 = some (.aload_n 1, 1) := by decide +kernel
theorem o181_22 : zop 181 22 = some (.bipush 40, 2) := by decide +kernel
theorem o181_24 : zop 181 24 = some (.iload_n 3, 1) := by decide +kernel
theorem o181_25 : zop 181 25 = some (.iadd, 1) := by decide +kernel
theorem o181_26 : zop 181 26 = some (.iaload, 1) := by decide +kernel
theorem o181_27 : zop 181 27 = some (.aload_n 1, 1) := by decide +kernel
theorem o181_28 : zop 181 28 = some (.bipush 40, 2) := by decide +kernel
theorem o181_30 : zop 181 30 = some (.iload_n 2, 1) := by decide +kernel
theorem o181_31 : zop 181 31 = some (.iadd, 1) := by decide +kernel
theorem o181_32 : zop 181 32 = some (.iaload, 1) := by decide +kernel
theorem o181_33 : zop 181 33 = some (.if_icmp .le 13, 3) := by decide +kernel
theorem o181_36 : zop 181 36 = some (.aload_n 1, 1) := by decide +kernel
theorem o181_37 : zop 181 37 = some (.bipush 40, 2) := by decide +kernel
theorem o181_39 : zop 181 39 = some (.iload_n 3, 1) := by decide +kernel
theorem o181_40 : zop 181 40 = some (.iadd, 1) := by decide +kernel
theorem o181_41 : zop 181 41 = some (.dup2, 1) := by decide +kernel
theorem o181_42 : zop 181 42 = some (.iaload, 1) := by decide +kernel
theorem o181_43 : zop 181 43 = some (.iconst 1, 1) := by decide +kernel
theorem o181_44 : zop 181 44 = some (.isub, 1) := by decide +kernel
theorem o181_45 : zop 181 45 = some (.iastore, 1) := by decide +kernel
theorem o181_46 : zop 181 46 = some (.iinc 3 1, 3) := by decide +kernel
theorem o181_49 : zop 181 49 = some (.goto (-47), 3) := by decide +kernel
theorem o181_52 : zop 181 52 = some (.aload_n 1, 1) := by decide +kernel
theorem o181_53 : zop 181 53 = some (.iload_n 2, 1) := by decide +kernel
theorem o181_54 : zop 181 54 = some (.iconst (-1), 1) := by decide +kernel
theorem o181_55 : zop 181 55 = some (.iastore, 1) := by decide +kernel
theorem o181_56 : zop 181 56 = some (.return_, 1) := by decide +kernel
theorem o182_0 : zop 182 0 = some (.iconst 0, 1) := by decide +kernel
theorem o182_1 : zop 182 1 = some (.istore 5, 2) := by decide +kernel
theorem o182_3 : zop 182 3 = some (.iconst 0, 1) := by decide +kernel
theorem o182_4 : zop 182 4 = some (.istore 6, 2) := by decide +kernel
theorem o182_6 : zop 182 6 = some (.iload 6, 2) := by decide +kernel
theorem o182_8 : zop 182 8 = some (.iload_n 3, 1) := by decide +kernel
theorem o182_9 : zop 182 9 = some (.if_icmp .ge 83, 3) := by decide +kernel
theorem o182_12 : zop 182 12 = some (.aload_n 0, 1) := by decide +kernel
theorem o182_13 : zop 182 13 = some (.getfield 1028, 3) := by decide +kernel
theorem o182_16 : zop 182 16 = some (.iconst 0, 1) := by decide +kernel
theorem o182_17 : zop 182 17 = some (.aload_n 0, 1) := by decide +kernel
theorem o182_18 : zop 182 18 = some (.getfield 1007, 3) := by decide +kernel
theorem o182_21 : zop 182 21 = some (.aload_n 0, 1) := by decide +kernel
theorem o182_22 : zop 182 22 = some (.getfield 1027, 3) := by decide +kernel
theorem o182_25 : zop 182 25 = some (.iload 6, 2) := by decide +kernel
theorem o182_27 : zop 182 27 = some (.iaload, 1) := by decide +kernel
theorem o182_28 : zop 182 28 = some (.iaload, 1) := by decide +kernel
theorem o182_29 : zop 182 29 = some (.iastore, 1) := by decide +kernel
theorem o182_30 : zop 182 30 = some (.aload_n 0, 1) := by decide +kernel
theorem o182_31 : zop 182 31 = some (.getfield 1028, 3) := by decide +kernel
theorem o182_34 : zop 182 34 = some (.iconst 1, 1) := by decide +kernel
theorem o182_35 : zop 182 35 = some (.aload_n 0, 1) := by decide +kernel
theorem o182_36 : zop 182 36 = some (.getfield 1006, 3) := by decide +kernel
theorem o182_39 : zop 182 39 = some (.aload_n 0, 1) := by decide +kernel
theorem o182_40 : zop 182 40 = some (.getfield 1027, 3) := by decide +kernel
theorem o182_43 : zop 182 43 = some (.iload 6, 2) := by decide +kernel
theorem o182_45 : zop 182 45 = some (.iaload, 1) := by decide +kernel
theorem o182_46 : zop 182 46 = some (.iaload, 1) := by decide +kernel
theorem o182_47 : zop 182 47 = some (.iastore, 1) := by decide +kernel
theorem o182_48 : zop 182 48 = some (.aload_n 0, 1) := by decide +kernel
theorem o182_49 : zop 182 49 = some (.getfield 1028, 3) := by decide +kernel
theorem o182_52 : zop 182 52 = some (.iconst 2, 1) := by decide +kernel
theorem o182_53 : zop 182 53 = some (.iload_n 1, 1) := by decide +kernel
theorem o182_54 : zop 182 54 = some (.iastore, 1) := by decide +kernel
theorem o182_55 : zop 182 55 = some (.aload_n 0, 1) := by decide +kernel
theorem o182_56 : zop 182 56 = some (.getfield 1028, 3) := by decide +kernel
theorem o182_59 : zop 182 59 = some (.iconst 3, 1) := by decide +kernel
theorem o182_60 : zop 182 60 = some (.iload_n 2, 1) := by decide +kernel
theorem o182_61 : zop 182 61 = some (.iastore, 1) := by decide +kernel
theorem o182_62 : zop 182 62 = some (.aload_n 0, 1) := by decide +kernel
theorem o182_63 : zop 182 63 = some (.getfield 1028, 3) := by decide +kernel
theorem o182_66 : zop 182 66 = some (.iconst 4, 1) := by decide +kernel
theorem o182_67 : zop 182 67 = some (.iload_n 3, 1) := by decide +kernel
theorem o182_68 : zop 182 68 = some (.iastore, 1) := by decide +kernel
theorem o182_69 : zop 182 69 = some (.aload_n 0, 1) := by decide +kernel
theorem o182_70 : zop 182 70 = some (.getfield 1028, 3) := by decide +kernel
theorem o182_73 : zop 182 73 = some (.iconst 5, 1) := by decide +kernel
theorem o182_74 : zop 182 74 = some (.iload 4, 2) := by decide +kernel
theorem o182_76 : zop 182 76 = some (.iastore, 1) := by decide +kernel
theorem o182_77 : zop 182 77 = some (.iload 5, 2) := by decide +kernel
theorem o182_79 : zop 182 79 = some (.aload_n 0, 1) := by decide +kernel
theorem o182_80 : zop 182 80 = some (.invokevirtual 183, 3) := by decide +kernel
theorem o182_83 : zop 182 83 = some (.iadd, 1) := by decide +kernel
theorem o182_84 : zop 182 84 = some (.istore 5, 2) := by decide +kernel
theorem o182_86 : zop 182 86 = some (.iinc 6 1, 3) := by decide +kernel
theorem o182_89 : zop 182 89 = some (.goto (-83), 3) := by decide +kernel
theorem o182_92 : zop 182 92 = some (.iload 5, 2) := by decide +kernel
theorem o182_94 : zop 182 94 = some (.ireturn, 1) := by decide +kernel
theorem o183_0 : zop 183 0 = some (.iconst 0, 1) := by decide +kernel
theorem o183_1 : zop 183 1 = some (.istore_n 1, 1) := by decide +kernel
theorem o183_2 : zop 183 2 = some (.aload_n 0, 1) := by decide +kernel
theorem o183_3 : zop 183 3 = some (.getfield 1029, 3) := by decide +kernel
theorem o183_6 : zop 183 6 = some (.iconst 0, 1) := by decide +kernel
theorem o183_7 : zop 183 7 = some (.iconst 0, 1) := by decide +kernel
theorem o183_8 : zop 183 8 = some (.iastore, 1) := by decide +kernel
theorem o183_9 : zop 183 9 = some (.iconst 0, 1) := by decide +kernel
theorem o183_10 : zop 183 10 = some (.istore_n 2, 1) := by decide +kernel
theorem o183_11 : zop 183 11 = some (.iload_n 2, 1) := by decide +kernel
theorem o183_12 : zop 183 12 = some (.aload_n 0, 1) := by decide +kernel
theorem o183_13 : zop 183 13 = some (.getfield 1003, 3) := by decide +kernel
theorem o183_16 : zop 183 16 = some (.iconst 3, 1) := by decide +kernel
theorem o183_17 : zop 183 17 = some (.iaload, 1) := by decide +kernel
theorem o183_18 : zop 183 18 = some (.if_icmp .ge 112, 3) := by decide +kernel
theorem o183_21 : zop 183 21 = some (.aload_n 0, 1) := by decide +kernel
theorem o183_22 : zop 183 22 = some (.getfield 1011, 3) := by decide +kernel
theorem o183_25 : zop 183 25 = some (.iload_n 2, 1) := by decide +kernel
theorem o183_26 : zop 183 26 = some (.iaload, 1) := by decide +kernel
theorem o183_27 : zop 183 27 = some (.istore_n 3, 1) := by decide +kernel
theorem o183_28 : zop 183 28 = some (.iload_n 3, 1) := by decide +kernel
theorem o183_29 : zop 183 29 = some (.bipush (-20), 2) := by decide +kernel
theorem o183_31 : zop 183 31 = some (.if_icmp .le 31, 3) := by decide +kernel
theorem o183_34 : zop 183 34 = some (.aload_n 0, 1) := by decide +kernel
theorem o183_35 : zop 183 35 = some (.getfield 1029, 3) := by decide +kernel
theorem o183_38 : zop 183 38 = some (.iload_n 1, 1) := by decide +kernel
theorem o183_39 : zop 183 39 = some (.iload_n 3, 1) := by decide +kernel
theorem o183_40 : zop 183 40 = some (.ifCond .lt 7, 3) := by decide +kernel
theorem o183_43 : zop 183 43 = some (.iload_n 3, 1) := by decide +kernel
theorem o183_44 : zop 183 44 = some (.goto 11, 3) := by decide +kernel
theorem o183_47 : zop 183 47 = some (.aload_n 0, 1) := by decide +kernel
theorem o183_48 : zop 183 48 = some (.getfield 1028, 3) := by decide +kernel
theorem o183_51 : zop 183 51 = some (.iconst (-1), 1) := by decide +kernel
theorem o183_52 : zop 183 52 = some (.iload_n 3, 1) := by decide +kernel
theorem o183_53 : zop 183 53 = some (.isub, 1) := by decide +kernel
theorem o183_54 : zop 183 54 = some (.iaload, 1) := by decide +kernel
theorem o183_55 : zop 183 55 = some (.iastore, 1) := by decide +kernel
theorem o183_56 : zop 183 56 = some (.iinc 1 1, 3) := by decide +kernel
theorem o183_59 : zop 183 59 = some (.goto 65, 3) := by decide +kernel
theorem o183_62 : zop 183 62 = some (.iload_n 3, 1) := by decide +kernel
theorem o183_63 : zop 183 63 = some (.bipush (-28), 2) := by decide +kernel
theorem o183_65 : zop 183 65 = some (.if_icmp .ne 30, 3) := by decide +kernel
theorem o183_68 : zop 183 68 = some (.aload_n 0, 1) := by decide +kernel
theorem o183_69 : zop 183 69 = some (.getfield 1029, 3) := by decide +kernel
theorem o183_72 : zop 183 72 = some (.iload_n 1, 1) := by decide +kernel
theorem o183_73 : zop 183 73 = some (.iconst 1, 1) := by decide +kernel
theorem o183_74 : zop 183 74 = some (.isub, 1) := by decide +kernel
theorem o183_75 : zop 183 75 = some (.aload_n 0, 1) := by decide +kernel
theorem o183_76 : zop 183 76 = some (.getfield 1029, 3) := by decide +kernel
theorem o183_79 : zop 183 79 = some (.iload_n 1, 1) := by decide +kernel
theorem o183_80 : zop 183 80 = some (.iconst 1, 1) := by decide +kernel
theorem o183_81 : zop 183 81 = some (.isub, 1) := by decide +kernel
theorem o183_82 : zop 183 82 = some (.iaload, 1) := by decide +kernel
theorem o183_83 : zop 183 83 = some (.ifCond .eq 7, 3) := by decide +kernel
theorem o183_86 : zop 183 86 = some (.iconst 0, 1) := by decide +kernel
theorem o183_87 : zop 183 87 = some (.goto 4, 3) := by decide +kernel
theorem o183_90 : zop 183 90 = some (.iconst 1, 1) := by decide +kernel
theorem o183_91 : zop 183 91 = some (.iastore, 1) := by decide +kernel
theorem o183_92 : zop 183 92 = some (.goto 32, 3) := by decide +kernel
theorem o183_95 : zop 183 95 = some (.iinc 1 (-1), 3) := by decide +kernel
theorem o183_98 : zop 183 98 = some (.aload_n 0, 1) := by decide +kernel
theorem o183_99 : zop 183 99 = some (.getfield 1029, 3) := by decide +kernel
theorem o183_102 : zop 183 102 = some (.iload_n 1, 1) := by decide +kernel
theorem o183_103 : zop 183 103 = some (.iconst 1, 1) := by decide +kernel
theorem o183_104 : zop 183 104 = some (.isub, 1) := by decide +kernel
theorem o183_105 : zop 183 105 = some (.iload_n 3, 1) := by decide +kernel
theorem o183_106 : zop 183 106 = some (.aload_n 0, 1) := by decide +kernel
theorem o183_107 : zop 183 107 = some (.getfield 1029, 3) := by decide +kernel
theorem o183_110 : zop 183 110 = some (.iload_n 1, 1) := by decide +kernel
theorem o183_111 : zop 183 111 = some (.iconst 1, 1) := by decide +kernel
theorem o183_112 : zop 183 112 = some (.isub, 1) := by decide +kernel
theorem o183_113 : zop 183 113 = some (.iaload, 1) := by decide +kernel
theorem o183_114 : zop 183 114 = some (.aload_n 0, 1) := by decide +kernel
theorem o183_115 : zop 183 115 = some (.getfield 1029, 3) := by decide +kernel
theorem o183_118 : zop 183 118 = some (.iload_n 1, 1) := by decide +kernel
theorem o183_119 : zop 183 119 = some (.iaload, 1) := by decide +kernel
theorem o183_120 : zop 183 120 = some (.invokestatic 184, 3) := by decide +kernel
theorem o183_123 : zop 183 123 = some (.iastore, 1) := by decide +kernel
theorem o183_124 : zop 183 124 = some (.iinc 2 1, 3) := by decide +kernel
theorem o183_127 : zop 183 127 = some (.goto (-116), 3) := by decide +kernel
theorem o183_130 : zop 183 130 = some (.aload_n 0, 1) := by decide +kernel
theorem o183_131 : zop 183 131 = some (.getfield 1029, 3) := by decide +kernel
theorem o183_134 : zop 183 134 = some (.iconst 0, 1) := by decide +kernel
theorem o183_135 : zop 183 135 = some (.iaload, 1) := by decide +kernel
theorem o183_136 : zop 183 136 = some (.ireturn, 1) := by decide +kernel
theorem o184_0 : zop 184 0 = some (.iload_n 0, 1) := by decide +kernel
theorem o184_1 : zop 184 1 = some (.tableswitch 103 (-26) (-20) #[89, 78, 67, 55, 51, 47, 43], 43) := by decide +kernel
theorem o184_44 : zop 184 44 = some (.iload_n 1, 1) := by decide +kernel
theorem o184_45 : zop 184 45 = some (.iload_n 2, 1) := by decide +kernel
theorem o184_46 : zop 184 46 = some (.iadd, 1) := by decide +kernel
theorem o184_47 : zop 184 47 = some (.ireturn, 1) := by decide +kernel
theorem o184_48 : zop 184 48 = some (.iload_n 1, 1) := by decide +kernel
theorem o184_49 : zop 184 49 = some (.iload_n 2, 1) := by decide +kernel
theorem o184_50 : zop 184 50 = some (.isub, 1) := by decide +kernel
theorem o184_51 : zop 184 51 = some (.ireturn, 1) := by decide +kernel
theorem o184_52 : zop 184 52 = some (.iload_n 1, 1) := by decide +kernel
theorem o184_53 : zop 184 53 = some (.iload_n 2, 1) := by decide +kernel
theorem o184_54 : zop 184 54 = some (.imul, 1) := by decide +kernel
theorem o184_55 : zop 184 55 = some (.ireturn, 1) := by decide +kernel
theorem o184_56 : zop 184 56 = some (.iload_n 2, 1) := by decide +kernel
theorem o184_57 : zop 184 57 = some (.ifCond .ne 7, 3) := by decide +kernel
theorem o184_60 : zop 184 60 = some (.iconst 0, 1) := by decide +kernel
theorem o184_61 : zop 184 61 = some (.goto 6, 3) := by decide +kernel
theorem o184_64 : zop 184 64 = some (.iload_n 1, 1) := by decide +kernel
theorem o184_65 : zop 184 65 = some (.iload_n 2, 1) := by decide +kernel
theorem o184_66 : zop 184 66 = some (.idiv, 1) := by decide +kernel
theorem o184_67 : zop 184 67 = some (.ireturn, 1) := by decide +kernel
theorem o184_68 : zop 184 68 = some (.iload_n 1, 1) := by decide +kernel
theorem o184_69 : zop 184 69 = some (.iload_n 2, 1) := by decide +kernel
theorem o184_70 : zop 184 70 = some (.if_icmp .ge 7, 3) := by decide +kernel
theorem o184_73 : zop 184 73 = some (.iconst 1, 1) := by decide +kernel
theorem o184_74 : zop 184 74 = some (.goto 4, 3) := by decide +kernel
theorem o184_77 : zop 184 77 = some (.iconst 0, 1) := by decide +kernel
theorem o184_78 : zop 184 78 = some (.ireturn, 1) := by decide +kernel
theorem o184_79 : zop 184 79 = some (.iload_n 1, 1) := by decide +kernel
theorem o184_80 : zop 184 80 = some (.iload_n 2, 1) := by decide +kernel
theorem o184_81 : zop 184 81 = some (.if_icmp .ne 7, 3) := by decide +kernel
theorem o184_84 : zop 184 84 = some (.iconst 1, 1) := by decide +kernel
theorem o184_85 : zop 184 85 = some (.goto 4, 3) := by decide +kernel
theorem o184_88 : zop 184 88 = some (.iconst 0, 1) := by decide +kernel
theorem o184_89 : zop 184 89 = some (.ireturn, 1) := by decide +kernel
theorem o184_90 : zop 184 90 = some (.iload_n 1, 1) := by decide +kernel
theorem o184_91 : zop 184 91 = some (.ifCond .eq 11, 3) := by decide +kernel
theorem o184_94 : zop 184 94 = some (.iload_n 2, 1) := by decide +kernel
theorem o184_95 : zop 184 95 = some (.ifCond .eq 7, 3) := by decide +kernel
theorem o184_98 : zop 184 98 = some (.iconst 1, 1) := by decide +kernel
theorem o184_99 : zop 184 99 = some (.goto 4, 3) := by decide +kernel
theorem o184_102 : zop 184 102 = some (.iconst 0, 1) := by decide +kernel
theorem o184_103 : zop 184 103 = some (.ireturn, 1) := by decide +kernel
theorem o184_104 : zop 184 104 = some (.iload_n 1, 1) := by decide +kernel
theorem o184_105 : zop 184 105 = some (.ifCond .ne 7, 3) := by decide +kernel
theorem o184_108 : zop 184 108 = some (.iload_n 2, 1) := by decide +kernel
theorem o184_109 : zop 184 109 = some (.ifCond .eq 7, 3) := by decide +kernel
theorem o184_112 : zop 184 112 = some (.iconst 1, 1) := by decide +kernel
theorem o184_113 : zop 184 113 = some (.goto 4, 3) := by decide +kernel
theorem o184_116 : zop 184 116 = some (.iconst 0, 1) := by decide +kernel
theorem o184_117 : zop 184 117 = some (.ireturn, 1) := by decide +kernel
theorem o185_0 : zop 185 0 = some (.aload_n 0, 1) := by decide +kernel
theorem o185_1 : zop 185 1 = some (.iconst 0, 1) := by decide +kernel
theorem o185_2 : zop 185 2 = some (.putfield 1002, 3) := by decide +kernel
theorem o185_5 : zop 185 5 = some (.aload_n 0, 1) := by decide +kernel
theorem o185_6 : zop 185 6 = some (.getfield 1030, 3) := by decide +kernel
theorem o185_9 : zop 185 9 = some (.aload_n 0, 1) := by decide +kernel
theorem o185_10 : zop 185 10 = some (.getfield 1031, 3) := by decide +kernel
theorem o185_13 : zop 185 13 = some (.if_icmp .ne 5, 3) := by decide +kernel
theorem o185_16 : zop 185 16 = some (.iconst (-1), 1) := by decide +kernel
theorem o185_17 : zop 185 17 = some (.ireturn, 1) := by decide +kernel
theorem o185_18 : zop 185 18 = some (.aload_n 0, 1) := by decide +kernel
theorem o185_19 : zop 185 19 = some (.dup, 1) := by decide +kernel
theorem o185_20 : zop 185 20 = some (.getfield 1030, 3) := by decide +kernel
theorem o185_23 : zop 185 23 = some (.iconst 1, 1) := by decide +kernel
theorem o185_24 : zop 185 24 = some (.isub, 1) := by decide +kernel
theorem o185_25 : zop 185 25 = some (.putfield 1030, 3) := by decide +kernel
theorem o185_28 : zop 185 28 = some (.iconst 0, 1) := by decide +kernel
theorem o185_29 : zop 185 29 = some (.istore_n 1, 1) := by decide +kernel
theorem o185_30 : zop 185 30 = some (.iload_n 1, 1) := by decide +kernel
theorem o185_31 : zop 185 31 = some (.sipush 171, 3) := by decide +kernel
theorem o185_34 : zop 185 34 = some (.if_icmp .ge 30, 3) := by decide +kernel
theorem o185_37 : zop 185 37 = some (.aload_n 0, 1) := by decide +kernel
theorem o185_38 : zop 185 38 = some (.getfield 1024, 3) := by decide +kernel
theorem o185_41 : zop 185 41 = some (.iload_n 1, 1) := by decide +kernel
theorem o185_42 : zop 185 42 = some (.aload_n 0, 1) := by decide +kernel
theorem o185_43 : zop 185 43 = some (.getfield 1026, 3) := by decide +kernel
theorem o185_46 : zop 185 46 = some (.sipush 171, 3) := by decide +kernel
theorem o185_49 : zop 185 49 = some (.aload_n 0, 1) := by decide +kernel
theorem o185_50 : zop 185 50 = some (.getfield 1030, 3) := by decide +kernel
theorem o185_53 : zop 185 53 = some (.imul, 1) := by decide +kernel
theorem o185_54 : zop 185 54 = some (.iload_n 1, 1) := by decide +kernel
theorem o185_55 : zop 185 55 = some (.iadd, 1) := by decide +kernel
theorem o185_56 : zop 185 56 = some (.iaload, 1) := by decide +kernel
theorem o185_57 : zop 185 57 = some (.iastore, 1) := by decide +kernel
theorem o185_58 : zop 185 58 = some (.iinc 1 1, 3) := by decide +kernel
theorem o185_61 : zop 185 61 = some (.goto (-31), 3) := by decide +kernel
theorem o185_64 : zop 185 64 = some (.aload_n 0, 1) := by decide +kernel
theorem o185_65 : zop 185 65 = some (.getfield 1030, 3) := by decide +kernel
theorem o185_68 : zop 185 68 = some (.ireturn, 1) := by decide +kernel
theorem o186_0 : zop 186 0 = some (.aload_n 0, 1) := by decide +kernel
theorem o186_1 : zop 186 1 = some (.iconst 0, 1) := by decide +kernel
theorem o186_2 : zop 186 2 = some (.putfield 1002, 3) := by decide +kernel
theorem o186_5 : zop 186 5 = some (.iload_n 1, 1) := by decide +kernel
theorem o186_6 : zop 186 6 = some (.iconst 0, 1) := by decide +kernel
theorem o186_7 : zop 186 7 = some (.aload_n 0, 1) := by decide +kernel
theorem o186_8 : zop 186 8 = some (.getfield 1030, 3) := by decide +kernel
theorem o186_11 : zop 186 11 = some (.iconst 1, 1) := by decide +kernel
theorem o186_12 : zop 186 12 = some (.isub, 1) := by decide +kernel
theorem o186_13 : zop 186 13 = some (.invokestatic 169, 3) := by decide +kernel
theorem o186_16 : zop 186 16 = some (.ifCond .eq 26, 3) := by decide +kernel
theorem o186_19 : zop 186 19 = some (.iload_n 2, 1) := by decide +kernel
theorem o186_20 : zop 186 20 = some (.iconst 0, 1) := by decide +kernel
theorem o186_21 : zop 186 21 = some (.iconst 5, 1) := by decide +kernel
theorem o186_22 : zop 186 22 = some (.invokestatic 169, 3) := by decide +kernel
theorem o186_25 : zop 186 25 = some (.ifCond .eq 17, 3) := by decide +kernel
theorem o186_28 : zop 186 28 = some (.aload_n 0, 1) := by decide +kernel
theorem o186_29 : zop 186 29 = some (.getfield 1034, 3) := by decide +kernel
theorem o186_32 : zop 186 32 = some (.bipush 6, 2) := by decide +kernel
theorem o186_34 : zop 186 34 = some (.iload_n 1, 1) := by decide +kernel
theorem o186_35 : zop 186 35 = some (.imul, 1) := by decide +kernel
theorem o186_36 : zop 186 36 = some (.iload_n 2, 1) := by decide +kernel
theorem o186_37 : zop 186 37 = some (.iadd, 1) := by decide +kernel
theorem o186_38 : zop 186 38 = some (.iaload, 1) := by decide +kernel
theorem o186_39 : zop 186 39 = some (.goto 8, 3) := by decide +kernel
theorem o186_42 : zop 186 42 = some (.aload_n 0, 1) := by decide +kernel
theorem o186_43 : zop 186 43 = some (.iconst 1, 1) := by decide +kernel
theorem o186_44 : zop 186 44 = some (.invokevirtual 133, 3) := by decide +kernel
theorem o186_47 : zop 186 47 = some (.ireturn, 1) := by decide +kernel
theorem o187_0 : zop 187 0 = some (.aload_n 0, 1) := by decide +kernel
theorem o187_1 : zop 187 1 = some (.iconst 0, 1) := by decide +kernel
theorem o187_2 : zop 187 2 = some (.putfield 1002, 3) := by decide +kernel
theorem o187_5 : zop 187 5 = some (.aload_n 0, 1) := by decide +kernel
theorem o187_6 : zop 187 6 = some (.iload_n 1, 1) := by decide +kernel
theorem o187_7 : zop 187 7 = some (.invokevirtual 168, 3) := by decide +kernel
theorem o187_10 : zop 187 10 = some (.ifCond .eq 11, 3) := by decide +kernel
theorem o187_13 : zop 187 13 = some (.aload_n 0, 1) := by decide +kernel
theorem o187_14 : zop 187 14 = some (.iload_n 2, 1) := by decide +kernel
theorem o187_15 : zop 187 15 = some (.invokevirtual 168, 3) := by decide +kernel
theorem o187_18 : zop 187 18 = some (.ifCond .ne 9, 3) := by decide +kernel
theorem o187_21 : zop 187 21 = some (.aload_n 0, 1) := by decide +kernel
theorem o187_22 : zop 187 22 = some (.iconst 1, 1) := by decide +kernel
theorem o187_23 : zop 187 23 = some (.invokevirtual 133, 3) := by decide +kernel
theorem o187_26 : zop 187 26 = some (.ireturn, 1) := by decide +kernel
theorem o187_27 : zop 187 27 = some (.iconst 0, 1) := by decide +kernel
theorem o187_28 : zop 187 28 = some (.istore_n 3, 1) := by decide +kernel
theorem o187_29 : zop 187 29 = some (.iconst 0, 1) := by decide +kernel
theorem o187_30 : zop 187 30 = some (.istore 4, 2) := by decide +kernel
theorem o187_32 : zop 187 32 = some (.iload 4, 2) := by decide +kernel
theorem o187_34 : zop 187 34 = some (.aload_n 0, 1) := by decide +kernel
theorem o187_35 : zop 187 35 = some (.getfield 1030, 3) := by decide +kernel
theorem o187_38 : zop 187 38 = some (.if_icmp .ge 111, 3) := by decide +kernel
theorem o187_41 : zop 187 41 = some (.iload_n 3, 1) := by decide +kernel
theorem o187_42 : zop 187 42 = some (.aload_n 0, 1) := by decide +kernel
theorem o187_43 : zop 187 43 = some (.getfield 1034, 3) := by decide +kernel
theorem o187_46 : zop 187 46 = some (.bipush 6, 2) := by decide +kernel
theorem o187_48 : zop 187 48 = some (.iload 4, 2) := by decide +kernel
theorem o187_50 : zop 187 50 = some (.imul, 1) := by decide +kernel
theorem o187_51 : zop 187 51 = some (.iconst 1, 1) := by decide +kernel
theorem o187_52 : zop 187 52 = some (.iadd, 1) := by decide +kernel
theorem o187_53 : zop 187 53 = some (.iaload, 1) := by decide +kernel
theorem o187_54 : zop 187 54 = some (.iload_n 1, 1) := by decide +kernel
theorem o187_55 : zop 187 55 = some (.if_icmp .ne 34, 3) := by decide +kernel
theorem o187_58 : zop 187 58 = some (.aload_n 0, 1) := by decide +kernel
theorem o187_59 : zop 187 59 = some (.getfield 1034, 3) := by decide +kernel
theorem o187_62 : zop 187 62 = some (.bipush 6, 2) := by decide +kernel
theorem o187_64 : zop 187 64 = some (.iload 4, 2) := by decide +kernel
theorem o187_66 : zop 187 66 = some (.imul, 1) := by decide +kernel
theorem o187_67 : zop 187 67 = some (.iconst 2, 1) := by decide +kernel
theorem o187_68 : zop 187 68 = some (.iadd, 1) := by decide +kernel
theorem o187_69 : zop 187 69 = some (.iaload, 1) := by decide +kernel
theorem o187_70 : zop 187 70 = some (.iload_n 2, 1) := by decide +kernel
theorem o187_71 : zop 187 71 = some (.if_icmp .ne 18, 3) := by decide +kernel
theorem o187_74 : zop 187 74 = some (.aload_n 0, 1) := by decide +kernel
theorem o187_75 : zop 187 75 = some (.getfield 1034, 3) := by decide +kernel
theorem o187_78 : zop 187 78 = some (.bipush 6, 2) := by decide +kernel
theorem o187_80 : zop 187 80 = some (.iload 4, 2) := by decide +kernel
theorem o187_82 : zop 187 82 = some (.imul, 1) := by decide +kernel
theorem o187_83 : zop 187 83 = some (.iconst 4, 1) := by decide +kernel
theorem o187_84 : zop 187 84 = some (.iadd, 1) := by decide +kernel
theorem o187_85 : zop 187 85 = some (.iaload, 1) := by decide +kernel
theorem o187_86 : zop 187 86 = some (.goto 4, 3) := by decide +kernel
theorem o187_89 : zop 187 89 = some (.iconst 0, 1) := by decide +kernel
theorem o187_90 : zop 187 90 = some (.iadd, 1) := by decide +kernel
theorem o187_91 : zop 187 91 = some (.istore_n 3, 1) := by decide +kernel
theorem o187_92 : zop 187 92 = some (.iload_n 3, 1) := by decide +kernel
theorem o187_93 : zop 187 93 = some (.aload_n 0, 1) := by decide +kernel
theorem o187_94 : zop 187 94 = some (.getfield 1034, 3) := by decide +kernel
theorem o187_97 : zop 187 97 = some (.bipush 6, 2) := by decide +kernel
theorem o187_99 : zop 187 99 = some (.iload 4, 2) := by decide +kernel
theorem o187_101 : zop 187 101 = some (.imul, 1) := by decide +kernel
theorem o187_102 : zop 187 102 = some (.iconst 1, 1) := by decide +kernel
theorem o187_103 : zop 187 103 = some (.iadd, 1) := by decide +kernel
theorem o187_104 : zop 187 104 = some (.iaload, 1) := by decide +kernel
theorem o187_105 : zop 187 105 = some (.iload_n 2, 1) := by decide +kernel
theorem o187_106 : zop 187 106 = some (.if_icmp .ne 34, 3) := by decide +kernel
theorem o187_109 : zop 187 109 = some (.aload_n 0, 1) := by decide +kernel
theorem o187_110 : zop 187 110 = some (.getfield 1034, 3) := by decide +kernel
theorem o187_113 : zop 187 113 = some (.bipush 6, 2) := by decide +kernel
theorem o187_115 : zop 187 115 = some (.iload 4, 2) := by decide +kernel
theorem o187_117 : zop 187 117 = some (.imul, 1) := by decide +kernel
theorem o187_118 : zop 187 118 = some (.iconst 2, 1) := by decide +kernel
theorem o187_119 : zop 187 119 = some (.iadd, 1) := by decide +kernel
theorem o187_120 : zop 187 120 = some (.iaload, 1) := by decide +kernel
theorem o187_121 : zop 187 121 = some (.iload_n 1, 1) := by decide +kernel
theorem o187_122 : zop 187 122 = some (.if_icmp .ne 18, 3) := by decide +kernel
theorem o187_125 : zop 187 125 = some (.aload_n 0, 1) := by decide +kernel
theorem o187_126 : zop 187 126 = some (.getfield 1034, 3) := by decide +kernel
theorem o187_129 : zop 187 129 = some (.bipush 6, 2) := by decide +kernel
theorem o187_131 : zop 187 131 = some (.iload 4, 2) := by decide +kernel
theorem o187_133 : zop 187 133 = some (.imul, 1) := by decide +kernel
theorem o187_134 : zop 187 134 = some (.iconst 4, 1) := by decide +kernel
theorem o187_135 : zop 187 135 = some (.iadd, 1) := by decide +kernel
theorem o187_136 : zop 187 136 = some (.iaload, 1) := by decide +kernel
theorem o187_137 : zop 187 137 = some (.goto 4, 3) := by decide +kernel
theorem o187_140 : zop 187 140 = some (.iconst 0, 1) := by decide +kernel
theorem o187_141 : zop 187 141 = some (.isub, 1) := by decide +kernel
theorem o187_142 : zop 187 142 = some (.istore_n 3, 1) := by decide +kernel
theorem o187_143 : zop 187 143 = some (.iinc 4 1, 3) := by decide +kernel
theorem o187_146 : zop 187 146 = some (.goto (-114), 3) := by decide +kernel
theorem o187_149 : zop 187 149 = some (.iload_n 3, 1) := by decide +kernel
theorem o187_150 : zop 187 150 = some (.ireturn, 1) := by decide +kernel
theorem o188_0 : zop 188 0 = some (.aload_n 0, 1) := by decide +kernel
theorem o188_1 : zop 188 1 = some (.iconst 0, 1) := by decide +kernel
theorem o188_2 : zop 188 2 = some (.putfield 1002, 3) := by decide +kernel
theorem o188_5 : zop 188 5 = some (.aload_n 0, 1) := by decide +kernel
theorem o188_6 : zop 188 6 = some (.iload_n 1, 1) := by decide +kernel
theorem o188_7 : zop 188 7 = some (.invokevirtual 172, 3) := by decide +kernel
theorem o188_10 : zop 188 10 = some (.ifCond .eq 11, 3) := by decide +kernel
theorem o188_13 : zop 188 13 = some (.aload_n 0, 1) := by decide +kernel
theorem o188_14 : zop 188 14 = some (.iload_n 2, 1) := by decide +kernel
theorem o188_15 : zop 188 15 = some (.invokevirtual 172, 3) := by decide +kernel
theorem o188_18 : zop 188 18 = some (.ifCond .ne 9, 3) := by decide +kernel
theorem o188_21 : zop 188 21 = some (.aload_n 0, 1) := by decide +kernel
theorem o188_22 : zop 188 22 = some (.iconst 1, 1) := by decide +kernel
theorem o188_23 : zop 188 23 = some (.invokevirtual 133, 3) := by decide +kernel
theorem o188_26 : zop 188 26 = some (.ireturn, 1) := by decide +kernel
theorem o188_27 : zop 188 27 = some (.iconst 0, 1) := by decide +kernel
theorem o188_28 : zop 188 28 = some (.istore_n 3, 1) := by decide +kernel
theorem o188_29 : zop 188 29 = some (.iload_n 3, 1) := by decide +kernel
theorem o188_30 : zop 188 30 = some (.aload_n 0, 1) := by decide +kernel
theorem o188_31 : zop 188 31 = some (.getfield 1030, 3) := by decide +kernel
theorem o188_34 : zop 188 34 = some (.if_icmp .ge 43, 3) := by decide +kernel
theorem o188_37 : zop 188 37 = some (.iload_n 1, 1) := by decide +kernel
theorem o188_38 : zop 188 38 = some (.iload_n 2, 1) := by decide +kernel
theorem o188_39 : zop 188 39 = some (.if_icmp .eq 38, 3) := by decide +kernel
theorem o188_42 : zop 188 42 = some (.aload_n 0, 1) := by decide +kernel
theorem o188_43 : zop 188 43 = some (.getfield 1026, 3) := by decide +kernel
theorem o188_46 : zop 188 46 = some (.sipush 171, 3) := by decide +kernel
theorem o188_49 : zop 188 49 = some (.iload_n 3, 1) := by decide +kernel
theorem o188_50 : zop 188 50 = some (.imul, 1) := by decide +kernel
theorem o188_51 : zop 188 51 = some (.iload_n 1, 1) := by decide +kernel
theorem o188_52 : zop 188 52 = some (.iadd, 1) := by decide +kernel
theorem o188_53 : zop 188 53 = some (.iaload, 1) := by decide +kernel
theorem o188_54 : zop 188 54 = some (.aload_n 0, 1) := by decide +kernel
theorem o188_55 : zop 188 55 = some (.getfield 1026, 3) := by decide +kernel
theorem o188_58 : zop 188 58 = some (.sipush 171, 3) := by decide +kernel
theorem o188_61 : zop 188 61 = some (.iload_n 3, 1) := by decide +kernel
theorem o188_62 : zop 188 62 = some (.imul, 1) := by decide +kernel
theorem o188_63 : zop 188 63 = some (.iload_n 2, 1) := by decide +kernel
theorem o188_64 : zop 188 64 = some (.iadd, 1) := by decide +kernel
theorem o188_65 : zop 188 65 = some (.iaload, 1) := by decide +kernel
theorem o188_66 : zop 188 66 = some (.if_icmp .ne 5, 3) := by decide +kernel
theorem o188_69 : zop 188 69 = some (.iload_n 3, 1) := by decide +kernel
theorem o188_70 : zop 188 70 = some (.ireturn, 1) := by decide +kernel
theorem o188_71 : zop 188 71 = some (.iinc 3 1, 3) := by decide +kernel
theorem o188_74 : zop 188 74 = some (.goto (-45), 3) := by decide +kernel
theorem o188_77 : zop 188 77 = some (.iload_n 1, 1) := by decide +kernel
theorem o188_78 : zop 188 78 = some (.iload_n 2, 1) := by decide +kernel
theorem o188_79 : zop 188 79 = some (.if_icmp .eq 25, 3) := by decide +kernel
theorem o188_82 : zop 188 82 = some (.aload_n 0, 1) := by decide +kernel
theorem o188_83 : zop 188 83 = some (.getfield 1024, 3) := by decide +kernel
theorem o188_86 : zop 188 86 = some (.iload_n 1, 1) := by decide +kernel
theorem o188_87 : zop 188 87 = some (.iaload, 1) := by decide +kernel
theorem o188_88 : zop 188 88 = some (.aload_n 0, 1) := by decide +kernel
theorem o188_89 : zop 188 89 = some (.getfield 1024, 3) := by decide +kernel
theorem o188_92 : zop 188 92 = some (.iload_n 2, 1) := by decide +kernel
theorem o188_93 : zop 188 93 = some (.iaload, 1) := by decide +kernel
theorem o188_94 : zop 188 94 = some (.if_icmp .ne 10, 3) := by decide +kernel
theorem o188_97 : zop 188 97 = some (.aload_n 0, 1) := by decide +kernel
theorem o188_98 : zop 188 98 = some (.getfield 1030, 3) := by decide +kernel
theorem o188_101 : zop 188 101 = some (.goto 4, 3) := by decide +kernel
theorem o188_104 : zop 188 104 = some (.iconst (-1), 1) := by decide +kernel
theorem o188_105 : zop 188 105 = some (.ireturn, 1) := by decide +kernel
theorem o189_0 : zop 189 0 = some (.aload_n 0, 1) := by decide +kernel
theorem o189_1 : zop 189 1 = some (.iconst 0, 1) := by decide +kernel
theorem o189_2 : zop 189 2 = some (.putfield 1002, 3) := by decide +kernel
theorem o189_5 : zop 189 5 = some (.aload_n 0, 1) := by decide +kernel
theorem o189_6 : zop 189 6 = some (.iload_n 1, 1) := by decide +kernel
theorem o189_7 : zop 189 7 = some (.invokevirtual 168, 3) := by decide +kernel
theorem o189_10 : zop 189 10 = some (.ifCond .eq 11, 3) := by decide +kernel
theorem o189_13 : zop 189 13 = some (.aload_n 0, 1) := by decide +kernel
theorem o189_14 : zop 189 14 = some (.iload_n 2, 1) := by decide +kernel
theorem o189_15 : zop 189 15 = some (.invokevirtual 168, 3) := by decide +kernel
theorem o189_18 : zop 189 18 = some (.ifCond .ne 9, 3) := by decide +kernel
theorem o189_21 : zop 189 21 = some (.aload_n 0, 1) := by decide +kernel
theorem o189_22 : zop 189 22 = some (.iconst 1, 1) := by decide +kernel
theorem o189_23 : zop 189 23 = some (.invokevirtual 133, 3) := by decide +kernel
theorem o189_26 : zop 189 26 = some (.ireturn, 1) := by decide +kernel
theorem o189_27 : zop 189 27 = some (.aload_n 0, 1) := by decide +kernel
theorem o189_28 : zop 189 28 = some (.aload_n 0, 1) := by decide +kernel
theorem o189_29 : zop 189 29 = some (.getfield 1024, 3) := by decide +kernel
theorem o189_32 : zop 189 32 = some (.iload_n 1, 1) := by decide +kernel
theorem o189_33 : zop 189 33 = some (.invokevirtual 165, 3) := by decide +kernel
theorem o189_36 : zop 189 36 = some (.istore_n 3, 1) := by decide +kernel
theorem o189_37 : zop 189 37 = some (.iconst 0, 1) := by decide +kernel
theorem o189_38 : zop 189 38 = some (.istore 4, 2) := by decide +kernel
theorem o189_40 : zop 189 40 = some (.iconst 0, 1) := by decide +kernel
theorem o189_41 : zop 189 41 = some (.istore 5, 2) := by decide +kernel
theorem o189_43 : zop 189 43 = some (.iconst 0, 1) := by decide +kernel
theorem o189_44 : zop 189 44 = some (.istore 6, 2) := by decide +kernel
theorem o189_46 : zop 189 46 = some (.iload 6, 2) := by decide +kernel
theorem o189_48 : zop 189 48 = some (.iload_n 3, 1) := by decide +kernel
theorem o189_49 : zop 189 49 = some (.if_icmp .ge 76, 3) := by decide +kernel
theorem o189_52 : zop 189 52 = some (.aload_n 0, 1) := by decide +kernel
theorem o189_53 : zop 189 53 = some (.iload_n 1, 1) := by decide +kernel
theorem o189_54 : zop 189 54 = some (.iload 6, 2) := by decide +kernel
theorem o189_56 : zop 189 56 = some (.invokevirtual 174, 3) := by decide +kernel
theorem o189_59 : zop 189 59 = some (.istore 7, 2) := by decide +kernel
theorem o189_61 : zop 189 61 = some (.bipush 10, 2) := by decide +kernel
theorem o189_63 : zop 189 63 = some (.aload_n 0, 1) := by decide +kernel
theorem o189_64 : zop 189 64 = some (.getfield 1007, 3) := by decide +kernel
theorem o189_67 : zop 189 67 = some (.iload 7, 2) := by decide +kernel
theorem o189_69 : zop 189 69 = some (.iaload, 1) := by decide +kernel
theorem o189_70 : zop 189 70 = some (.isub, 1) := by decide +kernel
theorem o189_71 : zop 189 71 = some (.aload_n 0, 1) := by decide +kernel
theorem o189_72 : zop 189 72 = some (.getfield 1006, 3) := by decide +kernel
theorem o189_75 : zop 189 75 = some (.iload 7, 2) := by decide +kernel
theorem o189_77 : zop 189 77 = some (.iaload, 1) := by decide +kernel
theorem o189_78 : zop 189 78 = some (.iload_n 2, 1) := by decide +kernel
theorem o189_79 : zop 189 79 = some (.if_icmp .ne 7, 3) := by decide +kernel
theorem o189_82 : zop 189 82 = some (.iconst 0, 1) := by decide +kernel
theorem o189_83 : zop 189 83 = some (.goto 4, 3) := by decide +kernel
theorem o189_86 : zop 189 86 = some (.iconst 5, 1) := by decide +kernel
theorem o189_87 : zop 189 87 = some (.iadd, 1) := by decide +kernel
theorem o189_88 : zop 189 88 = some (.istore 8, 2) := by decide +kernel
theorem o189_90 : zop 189 90 = some (.iload 8, 2) := by decide +kernel
theorem o189_92 : zop 189 92 = some (.iload 6, 2) := by decide +kernel
theorem o189_94 : zop 189 94 = some (.ifCond .ne 7, 3) := by decide +kernel
theorem o189_97 : zop 189 97 = some (.iconst 0, 1) := by decide +kernel
theorem o189_98 : zop 189 98 = some (.goto 10, 3) := by decide +kernel
theorem o189_101 : zop 189 101 = some (.iload 4, 2) := by decide +kernel
theorem o189_103 : zop 189 103 = some (.iload 5, 2) := by decide +kernel
theorem o189_105 : zop 189 105 = some (.invokestatic 1001, 3) := by decide +kernel
theorem o189_108 : zop 189 108 = some (.iadd, 1) := by decide +kernel
theorem o189_109 : zop 189 109 = some (.istore 9, 2) := by decide +kernel
theorem o189_111 : zop 189 111 = some (.iload 4, 2) := by decide +kernel
theorem o189_113 : zop 189 113 = some (.istore 5, 2) := by decide +kernel
theorem o189_115 : zop 189 115 = some (.iload 9, 2) := by decide +kernel
theorem o189_117 : zop 189 117 = some (.istore 4, 2) := by decide +kernel
theorem o189_119 : zop 189 119 = some (.iinc 6 1, 3) := by decide +kernel
theorem o189_122 : zop 189 122 = some (.goto (-76), 3) := by decide +kernel
theorem o189_125 : zop 189 125 = some (.iload_n 3, 1) := by decide +kernel
theorem o189_126 : zop 189 126 = some (.iconst 2, 1) := by decide +kernel
theorem o189_127 : zop 189 127 = some (.if_icmp .ge 7, 3) := by decide +kernel
theorem o189_130 : zop 189 130 = some (.iconst 0, 1) := by decide +kernel
theorem o189_131 : zop 189 131 = some (.goto 10, 3) := by decide +kernel
theorem o189_134 : zop 189 134 = some (.iload 4, 2) := by decide +kernel
theorem o189_136 : zop 189 136 = some (.iload 5, 2) := by decide +kernel
theorem o189_138 : zop 189 138 = some (.invokestatic 1001, 3) := by decide +kernel
theorem o189_141 : zop 189 141 = some (.ireturn, 1) := by decide +kernel
theorem o190_0 : zop 190 0 = some (.aload_n 0, 1) := by decide +kernel
theorem o190_1 : zop 190 1 = some (.iconst 0, 1) := by decide +kernel
theorem o190_2 : zop 190 2 = some (.putfield 1002, 3) := by decide +kernel
theorem o190_5 : zop 190 5 = some (.aload_n 0, 1) := by decide +kernel
theorem o190_6 : zop 190 6 = some (.iload_n 1, 1) := by decide +kernel
theorem o190_7 : zop 190 7 = some (.invokevirtual 176, 3) := by decide +kernel
theorem o190_10 : zop 190 10 = some (.ifCond .eq 11, 3) := by decide +kernel
theorem o190_13 : zop 190 13 = some (.aload_n 0, 1) := by decide +kernel
theorem o190_14 : zop 190 14 = some (.iload_n 2, 1) := by decide +kernel
theorem o190_15 : zop 190 15 = some (.invokevirtual 168, 3) := by decide +kernel
theorem o190_18 : zop 190 18 = some (.ifCond .ne 9, 3) := by decide +kernel
theorem o190_21 : zop 190 21 = some (.aload_n 0, 1) := by decide +kernel
theorem o190_22 : zop 190 22 = some (.iconst 1, 1) := by decide +kernel
theorem o190_23 : zop 190 23 = some (.invokevirtual 133, 3) := by decide +kernel
theorem o190_26 : zop 190 26 = some (.ireturn, 1) := by decide +kernel
theorem o190_27 : zop 190 27 = some (.aload_n 0, 1) := by decide +kernel
theorem o190_28 : zop 190 28 = some (.getfield 1032, 3) := by decide +kernel
theorem o190_31 : zop 190 31 = some (.iconst 4, 1) := by decide +kernel
theorem o190_32 : zop 190 32 = some (.if_icmp .ne 15, 3) := by decide +kernel
theorem o190_35 : zop 190 35 = some (.aload_n 0, 1) := by decide +kernel
theorem o190_36 : zop 190 36 = some (.getfield 1012, 3) := by decide +kernel
theorem o190_39 : zop 190 39 = some (.iconst 2, 1) := by decide +kernel
theorem o190_40 : zop 190 40 = some (.dup2, 1) := by decide +kernel
theorem o190_41 : zop 190 41 = some (.iaload, 1) := by decide +kernel
theorem o190_42 : zop 190 42 = some (.iconst 1, 1) := by decide +kernel
theorem o190_43 : zop 190 43 = some (.iadd, 1) := by decide +kernel
theorem o190_44 : zop 190 44 = some (.iastore, 1) := by decide +kernel
theorem o190_45 : zop 190 45 = some (.iconst (-1), 1) := by decide +kernel
theorem o190_46 : zop 190 46 = some (.ireturn, 1) := by decide +kernel
theorem o190_47 : zop 190 47 = some (.aload_n 0, 1) := by decide +kernel
theorem o190_48 : zop 190 48 = some (.getfield 1035, 3) := by decide +kernel
theorem o190_51 : zop 190 51 = some (.aload_n 0, 1) := by decide +kernel
theorem o190_52 : zop 190 52 = some (.getfield 1032, 3) := by decide +kernel
theorem o190_55 : zop 190 55 = some (.iload_n 1, 1) := by decide +kernel
theorem o190_56 : zop 190 56 = some (.iastore, 1) := by decide +kernel
theorem o190_57 : zop 190 57 = some (.aload_n 0, 1) := by decide +kernel
theorem o190_58 : zop 190 58 = some (.getfield 1036, 3) := by decide +kernel
theorem o190_61 : zop 190 61 = some (.aload_n 0, 1) := by decide +kernel
theorem o190_62 : zop 190 62 = some (.getfield 1032, 3) := by decide +kernel
theorem o190_65 : zop 190 65 = some (.iload_n 2, 1) := by decide +kernel
theorem o190_66 : zop 190 66 = some (.iastore, 1) := by decide +kernel
theorem o190_67 : zop 190 67 = some (.aload_n 0, 1) := by decide +kernel
theorem o190_68 : zop 190 68 = some (.dup, 1) := by decide +kernel
theorem o190_69 : zop 190 69 = some (.getfield 1032, 3) := by decide +kernel
theorem o190_72 : zop 190 72 = some (.iconst 1, 1) := by decide +kernel
theorem o190_73 : zop 190 73 = some (.iadd, 1) := by decide +kernel
theorem o190_74 : zop 190 74 = some (.putfield 1032, 3) := by decide +kernel
theorem o190_77 : zop 190 77 = some (.aload_n 0, 1) := by decide +kernel
theorem o190_78 : zop 190 78 = some (.getfield 1032, 3) := by decide +kernel
theorem o190_81 : zop 190 81 = some (.ireturn, 1) := by decide +kernel
theorem o191_0 : zop 191 0 = some (.aload_n 0, 1) := by decide +kernel
theorem o191_1 : zop 191 1 = some (.iconst 0, 1) := by decide +kernel
theorem o191_2 : zop 191 2 = some (.putfield 1002, 3) := by decide +kernel
theorem o191_5 : zop 191 5 = some (.aload_n 0, 1) := by decide +kernel
theorem o191_6 : zop 191 6 = some (.iconst 0, 1) := by decide +kernel
theorem o191_7 : zop 191 7 = some (.putfield 1032, 3) := by decide +kernel
theorem o191_10 : zop 191 10 = some (.aload_n 0, 1) := by decide +kernel
theorem o191_11 : zop 191 11 = some (.iconst 0, 1) := by decide +kernel
theorem o191_12 : zop 191 12 = some (.putfield 1033, 3) := by decide +kernel
theorem o191_15 : zop 191 15 = some (.return_, 1) := by decide +kernel
theorem o192_0 : zop 192 0 = some (.aload_n 0, 1) := by decide +kernel
theorem o192_1 : zop 192 1 = some (.iconst 0, 1) := by decide +kernel
theorem o192_2 : zop 192 2 = some (.putfield 1002, 3) := by decide +kernel
theorem o192_5 : zop 192 5 = some (.aload_n 0, 1) := by decide +kernel
theorem o192_6 : zop 192 6 = some (.iload_n 1, 1) := by decide +kernel
theorem o192_7 : zop 192 7 = some (.invokevirtual 168, 3) := by decide +kernel
theorem o192_10 : zop 192 10 = some (.ifCond .ne 9, 3) := by decide +kernel
theorem o192_13 : zop 192 13 = some (.aload_n 0, 1) := by decide +kernel
theorem o192_14 : zop 192 14 = some (.iconst 1, 1) := by decide +kernel
theorem o192_15 : zop 192 15 = some (.invokevirtual 133, 3) := by decide +kernel
theorem o192_18 : zop 192 18 = some (.ireturn, 1) := by decide +kernel
theorem o192_19 : zop 192 19 = some (.aload_n 0, 1) := by decide +kernel
theorem o192_20 : zop 192 20 = some (.iconst 0, 1) := by decide +kernel
theorem o192_21 : zop 192 21 = some (.iload_n 1, 1) := by decide +kernel
theorem o192_22 : zop 192 22 = some (.invokevirtual 193, 3) := by decide +kernel
theorem o192_25 : zop 192 25 = some (.aload_n 0, 1) := by decide +kernel
theorem o192_26 : zop 192 26 = some (.invokevirtual 199, 3) := by decide +kernel
theorem o192_29 : zop 192 29 = some (.aload_n 0, 1) := by decide +kernel
theorem o192_30 : zop 192 30 = some (.getfield 1045, 3) := by decide +kernel
theorem o192_33 : zop 192 33 = some (.ifCond .ne 7, 3) := by decide +kernel
theorem o192_36 : zop 192 36 = some (.iconst (-1), 1) := by decide +kernel
theorem o192_37 : zop 192 37 = some (.goto 7, 3) := by decide +kernel
theorem o192_40 : zop 192 40 = some (.aload_n 0, 1) := by decide +kernel
theorem o192_41 : zop 192 41 = some (.getfield 1046, 3) := by decide +kernel
theorem o192_44 : zop 192 44 = some (.ireturn, 1) := by decide +kernel
theorem o193_0 : zop 193 0 = some (.iconst 0, 1) := by decide +kernel
theorem o193_1 : zop 193 1 = some (.istore_n 3, 1) := by decide +kernel
theorem o193_2 : zop 193 2 = some (.iload_n 3, 1) := by decide +kernel
theorem o193_3 : zop 193 3 = some (.aload_n 0, 1) := by decide +kernel
theorem o193_4 : zop 193 4 = some (.getfield 1003, 3) := by decide +kernel
theorem o193_7 : zop 193 7 = some (.iconst 2, 1) := by decide +kernel
theorem o193_8 : zop 193 8 = some (.iaload, 1) := by decide +kernel
theorem o193_9 : zop 193 9 = some (.if_icmp .ge 25, 3) := by decide +kernel
theorem o193_12 : zop 193 12 = some (.aload_n 0, 1) := by decide +kernel
theorem o193_13 : zop 193 13 = some (.getfield 1043, 3) := by decide +kernel
theorem o193_16 : zop 193 16 = some (.iload_n 3, 1) := by decide +kernel
theorem o193_17 : zop 193 17 = some (.aload_n 0, 1) := by decide +kernel
theorem o193_18 : zop 193 18 = some (.getfield 1024, 3) := by decide +kernel
theorem o193_21 : zop 193 21 = some (.sipush 166, 3) := by decide +kernel
theorem o193_24 : zop 193 24 = some (.iload_n 3, 1) := by decide +kernel
theorem o193_25 : zop 193 25 = some (.iadd, 1) := by decide +kernel
theorem o193_26 : zop 193 26 = some (.iaload, 1) := by decide +kernel
theorem o193_27 : zop 193 27 = some (.iastore, 1) := by decide +kernel
theorem o193_28 : zop 193 28 = some (.iinc 3 1, 3) := by decide +kernel
theorem o193_31 : zop 193 31 = some (.goto (-29), 3) := by decide +kernel
theorem o193_34 : zop 193 34 = some (.aload_n 0, 1) := by decide +kernel
theorem o193_35 : zop 193 35 = some (.iconst 0, 1) := by decide +kernel
theorem o193_36 : zop 193 36 = some (.putfield 1045, 3) := by decide +kernel
theorem o193_39 : zop 193 39 = some (.aload_n 0, 1) := by decide +kernel
theorem o193_40 : zop 193 40 = some (.iconst 0, 1) := by decide +kernel
theorem o193_41 : zop 193 41 = some (.iload_n 1, 1) := by decide +kernel
theorem o193_42 : zop 193 42 = some (.iload_n 2, 1) := by decide +kernel
theorem o193_43 : zop 193 43 = some (.invokevirtual 194, 3) := by decide +kernel
theorem o193_46 : zop 193 46 = some (.return_, 1) := by decide +kernel
theorem o194_0 : zop 194 0 = some (.iload_n 1, 1) := by decide +kernel
theorem o194_1 : zop 194 1 = some (.aload_n 0, 1) := by decide +kernel
theorem o194_2 : zop 194 2 = some (.getfield 1032, 3) := by decide +kernel
theorem o194_5 : zop 194 5 = some (.if_icmp .ne 119, 3) := by decide +kernel
theorem o194_8 : zop 194 8 = some (.aload_n 0, 1) := by decide +kernel
theorem o194_9 : zop 194 9 = some (.getfield 1025, 3) := by decide +kernel
theorem o194_12 : zop 194 12 = some (.aload_n 0, 1) := by decide +kernel
theorem o194_13 : zop 194 13 = some (.getfield 1024, 3) := by decide +kernel
theorem o194_16 : zop 194 16 = some (.invokestatic 195, 3) := by decide +kernel
theorem o194_19 : zop 194 19 = some (.iconst 0, 1) := by decide +kernel
theorem o194_20 : zop 194 20 = some (.istore 4, 2) := by decide +kernel
theorem o194_22 : zop 194 22 = some (.iload 4, 2) := by decide +kernel
theorem o194_24 : zop 194 24 = some (.aload_n 0, 1) := by decide +kernel
theorem o194_25 : zop 194 25 = some (.getfield 1032, 3) := by decide +kernel
theorem o194_28 : zop 194 28 = some (.if_icmp .ge 72, 3) := by decide +kernel
theorem o194_31 : zop 194 31 = some (.aload_n 0, 1) := by decide +kernel
theorem o194_32 : zop 194 32 = some (.getfield 1025, 3) := by decide +kernel
theorem o194_35 : zop 194 35 = some (.sipush 166, 3) := by decide +kernel
theorem o194_38 : zop 194 38 = some (.aload_n 0, 1) := by decide +kernel
theorem o194_39 : zop 194 39 = some (.getfield 1035, 3) := by decide +kernel
theorem o194_42 : zop 194 42 = some (.iload 4, 2) := by decide +kernel
theorem o194_44 : zop 194 44 = some (.iaload, 1) := by decide +kernel
theorem o194_45 : zop 194 45 = some (.iadd, 1) := by decide +kernel
theorem o194_46 : zop 194 46 = some (.iaload, 1) := by decide +kernel
theorem o194_47 : zop 194 47 = some (.aload_n 0, 1) := by decide +kernel
theorem o194_48 : zop 194 48 = some (.getfield 1036, 3) := by decide +kernel
theorem o194_51 : zop 194 51 = some (.iload 4, 2) := by decide +kernel
theorem o194_53 : zop 194 53 = some (.iaload, 1) := by decide +kernel
theorem o194_54 : zop 194 54 = some (.if_icmp .eq 40, 3) := by decide +kernel
theorem o194_57 : zop 194 57 = some (.aload_n 0, 1) := by decide +kernel
theorem o194_58 : zop 194 58 = some (.aload_n 0, 1) := by decide +kernel
theorem o194_59 : zop 194 59 = some (.getfield 1025, 3) := by decide +kernel
theorem o194_62 : zop 194 62 = some (.aload_n 0, 1) := by decide +kernel
theorem o194_63 : zop 194 63 = some (.getfield 1035, 3) := by decide +kernel
theorem o194_66 : zop 194 66 = some (.iload 4, 2) := by decide +kernel
theorem o194_68 : zop 194 68 = some (.iaload, 1) := by decide +kernel
theorem o194_69 : zop 194 69 = some (.aload_n 0, 1) := by decide +kernel
theorem o194_70 : zop 194 70 = some (.getfield 1036, 3) := by decide +kernel
theorem o194_73 : zop 194 73 = some (.iload 4, 2) := by decide +kernel
theorem o194_75 : zop 194 75 = some (.iaload, 1) := by decide +kernel
theorem o194_76 : zop 194 76 = some (.aload_n 0, 1) := by decide +kernel
theorem o194_77 : zop 194 77 = some (.getfield 1037, 3) := by decide +kernel
theorem o194_80 : zop 194 80 = some (.iload 4, 2) := by decide +kernel
theorem o194_82 : zop 194 82 = some (.iaload, 1) := by decide +kernel
theorem o194_83 : zop 194 83 = some (.aload_n 0, 1) := by decide +kernel
theorem o194_84 : zop 194 84 = some (.getfield 1030, 3) := by decide +kernel
theorem o194_87 : zop 194 87 = some (.iload 4, 2) := by decide +kernel
theorem o194_89 : zop 194 89 = some (.iadd, 1) := by decide +kernel
theorem o194_90 : zop 194 90 = some (.invokevirtual 178, 3) := by decide +kernel
theorem o194_93 : zop 194 93 = some (.pop, 1) := by decide +kernel
theorem o194_94 : zop 194 94 = some (.iinc 4 1, 3) := by decide +kernel
theorem o194_97 : zop 194 97 = some (.goto (-75), 3) := by decide +kernel
theorem o194_100 : zop 194 100 = some (.iload_n 2, 1) := by decide +kernel
theorem o194_101 : zop 194 101 = some (.ifCond .ne 11, 3) := by decide +kernel
theorem o194_104 : zop 194 104 = some (.aload_n 0, 1) := by decide +kernel
theorem o194_105 : zop 194 105 = some (.iload_n 3, 1) := by decide +kernel
theorem o194_106 : zop 194 106 = some (.invokevirtual 196, 3) := by decide +kernel
theorem o194_109 : zop 194 109 = some (.goto 14, 3) := by decide +kernel
theorem o194_112 : zop 194 112 = some (.aload_n 0, 1) := by decide +kernel
theorem o194_113 : zop 194 113 = some (.invokevirtual 197, 3) := by decide +kernel
theorem o194_116 : zop 194 116 = some (.ifCond .eq 7, 3) := by decide +kernel
theorem o194_119 : zop 194 119 = some (.aload_n 0, 1) := by decide +kernel
theorem o194_120 : zop 194 120 = some (.invokevirtual 198, 3) := by decide +kernel
theorem o194_123 : zop 194 123 = some (.return_, 1) := by decide +kernel
theorem o194_124 : zop 194 124 = some (.aload_n 0, 1) := by decide +kernel
theorem o194_125 : zop 194 125 = some (.getfield 1043, 3) := by decide +kernel
theorem o194_128 : zop 194 128 = some (.aload_n 0, 1) := by decide +kernel
theorem o194_129 : zop 194 129 = some (.getfield 1035, 3) := by decide +kernel
theorem o194_132 : zop 194 132 = some (.iload_n 1, 1) := by decide +kernel
theorem o194_133 : zop 194 133 = some (.iaload, 1) := by decide +kernel
theorem o194_134 : zop 194 134 = some (.iaload, 1) := by decide +kernel
theorem o194_135 : zop 194 135 = some (.istore 4, 2) := by decide +kernel
theorem o194_137 : zop 194 137 = some (.aload_n 0, 1) := by decide +kernel
theorem o194_138 : zop 194 138 = some (.getfield 1043, 3) := by decide +kernel
theorem o194_141 : zop 194 141 = some (.aload_n 0, 1) := by decide +kernel
theorem o194_142 : zop 194 142 = some (.getfield 1035, 3) := by decide +kernel
theorem o194_145 : zop 194 145 = some (.iload_n 1, 1) := by decide +kernel
theorem o194_146 : zop 194 146 = some (.iaload, 1) := by decide +kernel
theorem o194_147 : zop 194 147 = some (.aload_n 0, 1) := by decide +kernel
theorem o194_148 : zop 194 148 = some (.getfield 1036, 3) := by decide +kernel
theorem o194_151 : zop 194 151 = some (.iload_n 1, 1) := by decide +kernel
theorem o194_152 : zop 194 152 = some (.iaload, 1) := by decide +kernel
theorem o194_153 : zop 194 153 = some (.iastore, 1) := by decide +kernel
theorem o194_154 : zop 194 154 = some (.iload 4, 2) := by decide +kernel
theorem o194_156 : zop 194 156 = some (.aload_n 0, 1) := by decide +kernel
theorem o194_157 : zop 194 157 = some (.getfield 1036, 3) := by decide +kernel
theorem o194_160 : zop 194 160 = some (.iload_n 1, 1) := by decide +kernel
theorem o194_161 : zop 194 161 = some (.iaload, 1) := by decide +kernel
theorem o194_162 : zop 194 162 = some (.if_icmp .ne 7, 3) := by decide +kernel
theorem o194_165 : zop 194 165 = some (.iconst 0, 1) := by decide +kernel
theorem o194_166 : zop 194 166 = some (.goto 14, 3) := by decide +kernel
theorem o194_169 : zop 194 169 = some (.aload_n 0, 1) := by decide +kernel
theorem o194_170 : zop 194 170 = some (.getfield 1009, 3) := by decide +kernel
theorem o194_173 : zop 194 173 = some (.aload_n 0, 1) := by decide +kernel
theorem o194_174 : zop 194 174 = some (.getfield 1035, 3) := by decide +kernel
theorem o194_177 : zop 194 177 = some (.iload_n 1, 1) := by decide +kernel
theorem o194_178 : zop 194 178 = some (.iaload, 1) := by decide +kernel
theorem o194_179 : zop 194 179 = some (.iaload, 1) := by decide +kernel
theorem o194_180 : zop 194 180 = some (.istore 5, 2) := by decide +kernel
theorem o194_182 : zop 194 182 = some (.iconst 0, 1) := by decide +kernel
theorem o194_183 : zop 194 183 = some (.istore 6, 2) := by decide +kernel
theorem o194_185 : zop 194 185 = some (.iload 6, 2) := by decide +kernel
theorem o194_187 : zop 194 187 = some (.iload 5, 2) := by decide +kernel
theorem o194_189 : zop 194 189 = some (.if_icmp .gt 26, 3) := by decide +kernel
theorem o194_192 : zop 194 192 = some (.aload_n 0, 1) := by decide +kernel
theorem o194_193 : zop 194 193 = some (.getfield 1037, 3) := by decide +kernel
theorem o194_196 : zop 194 196 = some (.iload_n 1, 1) := by decide +kernel
theorem o194_197 : zop 194 197 = some (.iload 6, 2) := by decide +kernel
theorem o194_199 : zop 194 199 = some (.iastore, 1) := by decide +kernel
theorem o194_200 : zop 194 200 = some (.aload_n 0, 1) := by decide +kernel
theorem o194_201 : zop 194 201 = some (.iload_n 1, 1) := by decide +kernel
theorem o194_202 : zop 194 202 = some (.iconst 1, 1) := by decide +kernel
theorem o194_203 : zop 194 203 = some (.iadd, 1) := by decide +kernel
theorem o194_204 : zop 194 204 = some (.iload_n 2, 1) := by decide +kernel
theorem o194_205 : zop 194 205 = some (.iload_n 3, 1) := by decide +kernel
theorem o194_206 : zop 194 206 = some (.invokevirtual 194, 3) := by decide +kernel
theorem o194_209 : zop 194 209 = some (.iinc 6 1, 3) := by decide +kernel
theorem o194_212 : zop 194 212 = some (.goto (-27), 3) := by decide +kernel
theorem o194_215 : zop 194 215 = some (.aload_n 0, 1) := by decide +kernel
theorem o194_216 : zop 194 216 = some (.getfield 1043, 3) := by decide +kernel
theorem o194_219 : zop 194 219 = some (.aload_n 0, 1) := by decide +kernel
theorem o194_220 : zop 194 220 = some (.getfield 1035, 3) := by decide +kernel
theorem o194_223 : zop 194 223 = some (.iload_n 1, 1) := by decide +kernel
theorem o194_224 : zop 194 224 = some (.iaload, 1) := by decide +kernel
theorem o194_225 : zop 194 225 = some (.iload 4, 2) := by decide +kernel
theorem o194_227 : zop 194 227 = some (.iastore, 1) := by decide +kernel
theorem o194_228 : zop 194 228 = some (.return_, 1) := by decide +kernel
theorem o195_0 : zop 195 0 = some (.iconst 0, 1) := by decide +kernel
theorem o195_1 : zop 195 1 = some (.istore_n 2, 1) := by decide +kernel
theorem o195_2 : zop 195 2 = some (.iload_n 2, 1) := by decide +kernel
theorem o195_3 : zop 195 3 = some (.aload_n 0, 1) := by decide +kernel
theorem o195_4 : zop 195 4 = some (.arraylength, 1) := by decide +kernel
theorem o195_5 : zop 195 5 = some (.if_icmp .ge 15, 3) := by decide +kernel
theorem o195_8 : zop 195 8 = some (.aload_n 0, 1) := by decide +kernel
theorem o195_9 : zop 195 9 = some (.iload_n 2, 1) := by decide +kernel
theorem o195_10 : zop 195 10 = some (.aload_n 1, 1) := by decide +kernel
theorem o195_11 : zop 195 11 = some (.iload_n 2, 1) := by decide +kernel
theorem o195_12 : zop 195 12 = some (.iaload, 1) := by decide +kernel
theorem o195_13 : zop 195 13 = some (.iastore, 1) := by decide +kernel
theorem o195_14 : zop 195 14 = some (.iinc 2 1, 3) := by decide +kernel
theorem o195_17 : zop 195 17 = some (.goto (-15), 3) := by decide +kernel
theorem o195_20 : zop 195 20 = some (.return_, 1) := by decide +kernel
theorem o196_0 : zop 196 0 = some (.aload_n 0, 1) := by decide +kernel
theorem o196_1 : zop 196 1 = some (.aload_n 0, 1) := by decide +kernel
theorem o196_2 : zop 196 2 = some (.getfield 1025, 3) := by decide +kernel
theorem o196_5 : zop 196 5 = some (.iload_n 1, 1) := by decide +kernel
theorem o196_6 : zop 196 6 = some (.invokevirtual 164, 3) := by decide +kernel
theorem o196_9 : zop 196 9 = some (.ifCond .le 4, 3) := by decide +kernel
theorem o196_12 : zop 196 12 = some (.return_, 1) := by decide +kernel
theorem o196_13 : zop 196 13 = some (.aload_n 0, 1) := by decide +kernel
theorem o196_14 : zop 196 14 = some (.aload_n 0, 1) := by decide +kernel
theorem o196_15 : zop 196 15 = some (.getfield 1025, 3) := by decide +kernel
theorem o196_18 : zop 196 18 = some (.invokevirtual 163, 3) := by decide +kernel
theorem o196_21 : zop 196 21 = some (.istore_n 2, 1) := by decide +kernel
theorem o196_22 : zop 196 22 = some (.iconst 0, 1) := by decide +kernel
theorem o196_23 : zop 196 23 = some (.istore_n 3, 1) := by decide +kernel
theorem o196_24 : zop 196 24 = some (.iconst 0, 1) := by decide +kernel
theorem o196_25 : zop 196 25 = some (.istore 4, 2) := by decide +kernel
theorem o196_27 : zop 196 27 = some (.iload 4, 2) := by decide +kernel
theorem o196_29 : zop 196 29 = some (.aload_n 0, 1) := by decide +kernel
theorem o196_30 : zop 196 30 = some (.getfield 1032, 3) := by decide +kernel
theorem o196_33 : zop 196 33 = some (.if_icmp .ge 19, 3) := by decide +kernel
theorem o196_36 : zop 196 36 = some (.iload_n 3, 1) := by decide +kernel
theorem o196_37 : zop 196 37 = some (.aload_n 0, 1) := by decide +kernel
theorem o196_38 : zop 196 38 = some (.getfield 1037, 3) := by decide +kernel
theorem o196_41 : zop 196 41 = some (.iload 4, 2) := by decide +kernel
theorem o196_43 : zop 196 43 = some (.iaload, 1) := by decide +kernel
theorem o196_44 : zop 196 44 = some (.iadd, 1) := by decide +kernel
theorem o196_45 : zop 196 45 = some (.istore_n 3, 1) := by decide +kernel
theorem o196_46 : zop 196 46 = some (.iinc 4 1, 3) := by decide +kernel
theorem o196_49 : zop 196 49 = some (.goto (-22), 3) := by decide +kernel
theorem o196_52 : zop 196 52 = some (.aload_n 0, 1) := by decide +kernel
theorem o196_53 : zop 196 53 = some (.getfield 1045, 3) := by decide +kernel
theorem o196_56 : zop 196 56 = some (.ifCond .le 28, 3) := by decide +kernel
theorem o196_59 : zop 196 59 = some (.iload_n 2, 1) := by decide +kernel
theorem o196_60 : zop 196 60 = some (.aload_n 0, 1) := by decide +kernel
theorem o196_61 : zop 196 61 = some (.getfield 1046, 3) := by decide +kernel
theorem o196_64 : zop 196 64 = some (.if_icmp .gt 19, 3) := by decide +kernel
theorem o196_67 : zop 196 67 = some (.iload_n 2, 1) := by decide +kernel
theorem o196_68 : zop 196 68 = some (.aload_n 0, 1) := by decide +kernel
theorem o196_69 : zop 196 69 = some (.getfield 1046, 3) := by decide +kernel
theorem o196_72 : zop 196 72 = some (.if_icmp .ne 12, 3) := by decide +kernel
theorem o196_75 : zop 196 75 = some (.iload_n 3, 1) := by decide +kernel
theorem o196_76 : zop 196 76 = some (.aload_n 0, 1) := by decide +kernel
theorem o196_77 : zop 196 77 = some (.getfield 1047, 3) := by decide +kernel
theorem o196_80 : zop 196 80 = some (.if_icmp .gt 4, 3) := by decide +kernel
theorem o196_83 : zop 196 83 = some (.return_, 1) := by decide +kernel
theorem o196_84 : zop 196 84 = some (.aload_n 0, 1) := by decide +kernel
theorem o196_85 : zop 196 85 = some (.iconst 1, 1) := by decide +kernel
theorem o196_86 : zop 196 86 = some (.putfield 1045, 3) := by decide +kernel
theorem o196_89 : zop 196 89 = some (.aload_n 0, 1) := by decide +kernel
theorem o196_90 : zop 196 90 = some (.iload_n 2, 1) := by decide +kernel
theorem o196_91 : zop 196 91 = some (.putfield 1046, 3) := by decide +kernel
theorem o196_94 : zop 196 94 = some (.aload_n 0, 1) := by decide +kernel
theorem o196_95 : zop 196 95 = some (.iload_n 3, 1) := by decide +kernel
theorem o196_96 : zop 196 96 = some (.putfield 1047, 3) := by decide +kernel
theorem o196_99 : zop 196 99 = some (.aload_n 0, 1) := by decide +kernel
theorem o196_100 : zop 196 100 = some (.getfield 1038, 3) := by decide +kernel
theorem o196_103 : zop 196 103 = some (.aload_n 0, 1) := by decide +kernel
theorem o196_104 : zop 196 104 = some (.getfield 1037, 3) := by decide +kernel
theorem o196_107 : zop 196 107 = some (.invokestatic 195, 3) := by decide +kernel
theorem o196_110 : zop 196 110 = some (.return_, 1) := by decide +kernel
theorem o197_0 : zop 197 0 = some (.iconst 0, 1) := by decide +kernel
theorem o197_1 : zop 197 1 = some (.istore_n 1, 1) := by decide +kernel
theorem o197_2 : zop 197 2 = some (.iload_n 1, 1) := by decide +kernel
theorem o197_3 : zop 197 3 = some (.aload_n 0, 1) := by decide +kernel
theorem o197_4 : zop 197 4 = some (.getfield 1033, 3) := by decide +kernel
theorem o197_7 : zop 197 7 = some (.if_icmp .ge 40, 3) := by decide +kernel
theorem o197_10 : zop 197 10 = some (.aload_n 0, 1) := by decide +kernel
theorem o197_11 : zop 197 11 = some (.aload_n 0, 1) := by decide +kernel
theorem o197_12 : zop 197 12 = some (.getfield 1025, 3) := by decide +kernel
theorem o197_15 : zop 197 15 = some (.aload_n 0, 1) := by decide +kernel
theorem o197_16 : zop 197 16 = some (.getfield 1040, 3) := by decide +kernel
theorem o197_19 : zop 197 19 = some (.iload_n 1, 1) := by decide +kernel
theorem o197_20 : zop 197 20 = some (.iaload, 1) := by decide +kernel
theorem o197_21 : zop 197 21 = some (.aload_n 0, 1) := by decide +kernel
theorem o197_22 : zop 197 22 = some (.getfield 1041, 3) := by decide +kernel
theorem o197_25 : zop 197 25 = some (.iload_n 1, 1) := by decide +kernel
theorem o197_26 : zop 197 26 = some (.iaload, 1) := by decide +kernel
theorem o197_27 : zop 197 27 = some (.invokevirtual 170, 3) := by decide +kernel
theorem o197_30 : zop 197 30 = some (.aload_n 0, 1) := by decide +kernel
theorem o197_31 : zop 197 31 = some (.getfield 1042, 3) := by decide +kernel
theorem o197_34 : zop 197 34 = some (.iload_n 1, 1) := by decide +kernel
theorem o197_35 : zop 197 35 = some (.iaload, 1) := by decide +kernel
theorem o197_36 : zop 197 36 = some (.if_icmp .eq 5, 3) := by decide +kernel
theorem o197_39 : zop 197 39 = some (.iconst 0, 1) := by decide +kernel
theorem o197_40 : zop 197 40 = some (.ireturn, 1) := by decide +kernel
theorem o197_41 : zop 197 41 = some (.iinc 1 1, 3) := by decide +kernel
theorem o197_44 : zop 197 44 = some (.goto (-42), 3) := by decide +kernel
theorem o197_47 : zop 197 47 = some (.iconst 1, 1) := by decide +kernel
theorem o197_48 : zop 197 48 = some (.ireturn, 1) := by decide +kernel
theorem o198_0 : zop 198 0 = some (.aload_n 0, 1) := by decide +kernel
theorem o198_1 : zop 198 1 = some (.getfield 1045, 3) := by decide +kernel
theorem o198_4 : zop 198 4 = some (.ifCond .ne 14, 3) := by decide +kernel
theorem o198_7 : zop 198 7 = some (.aload_n 0, 1) := by decide +kernel
theorem o198_8 : zop 198 8 = some (.getfield 1038, 3) := by decide +kernel
theorem o198_11 : zop 198 11 = some (.aload_n 0, 1) := by decide +kernel
theorem o198_12 : zop 198 12 = some (.getfield 1037, 3) := by decide +kernel
theorem o198_15 : zop 198 15 = some (.invokestatic 195, 3) := by decide +kernel
theorem o198_18 : zop 198 18 = some (.aload_n 0, 1) := by decide +kernel
theorem o198_19 : zop 198 19 = some (.dup, 1) := by decide +kernel
theorem o198_20 : zop 198 20 = some (.getfield 1045, 3) := by decide +kernel
theorem o198_23 : zop 198 23 = some (.iconst 1, 1) := by decide +kernel
theorem o198_24 : zop 198 24 = some (.iadd, 1) := by decide +kernel
theorem o198_25 : zop 198 25 = some (.putfield 1045, 3) := by decide +kernel
theorem o198_28 : zop 198 28 = some (.return_, 1) := by decide +kernel
theorem o199_0 : zop 199 0 = some (.aload_n 0, 1) := by decide +kernel
theorem o199_1 : zop 199 1 = some (.getfield 1045, 3) := by decide +kernel
theorem o199_4 : zop 199 4 = some (.ifCond .ne 4, 3) := by decide +kernel
theorem o199_7 : zop 199 7 = some (.return_, 1) := by decide +kernel
theorem o199_8 : zop 199 8 = some (.aload_n 0, 1) := by decide +kernel
theorem o199_9 : zop 199 9 = some (.aload_n 0, 1) := by decide +kernel
theorem o199_10 : zop 199 10 = some (.getfield 1032, 3) := by decide +kernel
theorem o199_13 : zop 199 13 = some (.putfield 1044, 3) := by decide +kernel
theorem o199_16 : zop 199 16 = some (.aload_n 0, 1) := by decide +kernel
theorem o199_17 : zop 199 17 = some (.getfield 1039, 3) := by decide +kernel
theorem o199_20 : zop 199 20 = some (.aload_n 0, 1) := by decide +kernel
theorem o199_21 : zop 199 21 = some (.getfield 1038, 3) := by decide +kernel
theorem o199_24 : zop 199 24 = some (.invokestatic 195, 3) := by decide +kernel
theorem o199_27 : zop 199 27 = some (.return_, 1) := by decide +kernel
theorem o200_0 : zop 200 0 = some (.aload_n 0, 1) := by decide +kernel
theorem o200_1 : zop 200 1 = some (.iconst 0, 1) := by decide +kernel
theorem o200_2 : zop 200 2 = some (.putfield 1002, 3) := by decide +kernel
theorem o200_5 : zop 200 5 = some (.aload_n 0, 1) := by decide +kernel
theorem o200_6 : zop 200 6 = some (.iload_n 1, 1) := by decide +kernel
theorem o200_7 : zop 200 7 = some (.invokevirtual 168, 3) := by decide +kernel
theorem o200_10 : zop 200 10 = some (.ifCond .eq 11, 3) := by decide +kernel
theorem o200_13 : zop 200 13 = some (.aload_n 0, 1) := by decide +kernel
theorem o200_14 : zop 200 14 = some (.iload_n 2, 1) := by decide +kernel
theorem o200_15 : zop 200 15 = some (.invokevirtual 168, 3) := by decide +kernel
theorem o200_18 : zop 200 18 = some (.ifCond .ne 9, 3) := by decide +kernel
theorem o200_21 : zop 200 21 = some (.aload_n 0, 1) := by decide +kernel
theorem o200_22 : zop 200 22 = some (.iconst 1, 1) := by decide +kernel
theorem o200_23 : zop 200 23 = some (.invokevirtual 133, 3) := by decide +kernel
theorem o200_26 : zop 200 26 = some (.ireturn, 1) := by decide +kernel
theorem o200_27 : zop 200 27 = some (.aload_n 0, 1) := by decide +kernel
theorem o200_28 : zop 200 28 = some (.getfield 1033, 3) := by decide +kernel
theorem o200_31 : zop 200 31 = some (.bipush 10, 2) := by decide +kernel
theorem o200_33 : zop 200 33 = some (.if_icmp .eq 13, 3) := by decide +kernel
theorem o200_36 : zop 200 36 = some (.iload_n 3, 1) := by decide +kernel
theorem o200_37 : zop 200 37 = some (.iconst 0, 1) := by decide +kernel
theorem o200_38 : zop 200 38 = some (.bipush 40, 2) := by decide +kernel
theorem o200_40 : zop 200 40 = some (.invokestatic 169, 3) := by decide +kernel
theorem o200_43 : zop 200 43 = some (.ifCond .ne 15, 3) := by decide +kernel
theorem o200_46 : zop 200 46 = some (.aload_n 0, 1) := by decide +kernel
theorem o200_47 : zop 200 47 = some (.getfield 1012, 3) := by decide +kernel
theorem o200_50 : zop 200 50 = some (.iconst 2, 1) := by decide +kernel
theorem o200_51 : zop 200 51 = some (.dup2, 1) := by decide +kernel
theorem o200_52 : zop 200 52 = some (.iaload, 1) := by decide +kernel
theorem o200_53 : zop 200 53 = some (.iconst 1, 1) := by decide +kernel
theorem o200_54 : zop 200 54 = some (.iadd, 1) := by decide +kernel
theorem o200_55 : zop 200 55 = some (.iastore, 1) := by decide +kernel
theorem o200_56 : zop 200 56 = some (.iconst (-1), 1) := by decide +kernel
theorem o200_57 : zop 200 57 = some (.ireturn, 1) := by decide +kernel
theorem o200_58 : zop 200 58 = some (.aload_n 0, 1) := by decide +kernel
theorem o200_59 : zop 200 59 = some (.getfield 1040, 3) := by decide +kernel
theorem o200_62 : zop 200 62 = some (.aload_n 0, 1) := by decide +kernel
theorem o200_63 : zop 200 63 = some (.getfield 1033, 3) := by decide +kernel
theorem o200_66 : zop 200 66 = some (.iload_n 1, 1) := by decide +kernel
theorem o200_67 : zop 200 67 = some (.iastore, 1) := by decide +kernel
theorem o200_68 : zop 200 68 = some (.aload_n 0, 1) := by decide +kernel
theorem o200_69 : zop 200 69 = some (.getfield 1041, 3) := by decide +kernel
theorem o200_72 : zop 200 72 = some (.aload_n 0, 1) := by decide +kernel
theorem o200_73 : zop 200 73 = some (.getfield 1033, 3) := by decide +kernel
theorem o200_76 : zop 200 76 = some (.iload_n 2, 1) := by decide +kernel
theorem o200_77 : zop 200 77 = some (.iastore, 1) := by decide +kernel
theorem o200_78 : zop 200 78 = some (.aload_n 0, 1) := by decide +kernel
theorem o200_79 : zop 200 79 = some (.getfield 1042, 3) := by decide +kernel
theorem o200_82 : zop 200 82 = some (.aload_n 0, 1) := by decide +kernel
theorem o200_83 : zop 200 83 = some (.getfield 1033, 3) := by decide +kernel
theorem o200_86 : zop 200 86 = some (.iload_n 3, 1) := by decide +kernel
theorem o200_87 : zop 200 87 = some (.iastore, 1) := by decide +kernel
theorem o200_88 : zop 200 88 = some (.aload_n 0, 1) := by decide +kernel
theorem o200_89 : zop 200 89 = some (.dup, 1) := by decide +kernel
theorem o200_90 : zop 200 90 = some (.getfield 1033, 3) := by decide +kernel
theorem o200_93 : zop 200 93 = some (.iconst 1, 1) := by decide +kernel
theorem o200_94 : zop 200 94 = some (.iadd, 1) := by decide +kernel
theorem o200_95 : zop 200 95 = some (.putfield 1033, 3) := by decide +kernel
theorem o200_98 : zop 200 98 = some (.aload_n 0, 1) := by decide +kernel
theorem o200_99 : zop 200 99 = some (.getfield 1033, 3) := by decide +kernel
theorem o200_102 : zop 200 102 = some (.ireturn, 1) := by decide +kernel
theorem o201_0 : zop 201 0 = some (.aload_n 0, 1) := by decide +kernel
theorem o201_1 : zop 201 1 = some (.iconst 0, 1) := by decide +kernel
theorem o201_2 : zop 201 2 = some (.putfield 1002, 3) := by decide +kernel
theorem o201_5 : zop 201 5 = some (.aload_n 0, 1) := by decide +kernel
theorem o201_6 : zop 201 6 = some (.iconst 1, 1) := by decide +kernel
theorem o201_7 : zop 201 7 = some (.iconst 0, 1) := by decide +kernel
theorem o201_8 : zop 201 8 = some (.invokevirtual 193, 3) := by decide +kernel
theorem o201_11 : zop 201 11 = some (.aload_n 0, 1) := by decide +kernel
theorem o201_12 : zop 201 12 = some (.invokevirtual 199, 3) := by decide +kernel
theorem o201_15 : zop 201 15 = some (.aload_n 0, 1) := by decide +kernel
theorem o201_16 : zop 201 16 = some (.getfield 1045, 3) := by decide +kernel
theorem o201_19 : zop 201 19 = some (.ireturn, 1) := by decide +kernel
theorem o202_0 : zop 202 0 = some (.aload_n 0, 1) := by decide +kernel
theorem o202_1 : zop 202 1 = some (.iconst 0, 1) := by decide +kernel
theorem o202_2 : zop 202 2 = some (.putfield 1002, 3) := by decide +kernel
theorem o202_5 : zop 202 5 = some (.aload_n 0, 1) := by decide +kernel
theorem o202_6 : zop 202 6 = some (.getfield 1044, 3) := by decide +kernel
theorem o202_9 : zop 202 9 = some (.iconst (-1), 1) := by decide +kernel
theorem o202_10 : zop 202 10 = some (.if_icmp .eq 26, 3) := by decide +kernel
theorem o202_13 : zop 202 13 = some (.iload_n 1, 1) := by decide +kernel
theorem o202_14 : zop 202 14 = some (.iconst 0, 1) := by decide +kernel
theorem o202_15 : zop 202 15 = some (.aload_n 0, 1) := by decide +kernel
theorem o202_16 : zop 202 16 = some (.getfield 1044, 3) := by decide +kernel
theorem o202_19 : zop 202 19 = some (.iconst 1, 1) := by decide +kernel
theorem o202_20 : zop 202 20 = some (.isub, 1) := by decide +kernel
theorem o202_21 : zop 202 21 = some (.invokestatic 169, 3) := by decide +kernel
theorem o202_24 : zop 202 24 = some (.ifCond .eq 12, 3) := by decide +kernel
theorem o202_27 : zop 202 27 = some (.aload_n 0, 1) := by decide +kernel
theorem o202_28 : zop 202 28 = some (.getfield 1039, 3) := by decide +kernel
theorem o202_31 : zop 202 31 = some (.iload_n 1, 1) := by decide +kernel
theorem o202_32 : zop 202 32 = some (.iaload, 1) := by decide +kernel
theorem o202_33 : zop 202 33 = some (.goto 8, 3) := by decide +kernel
theorem o202_36 : zop 202 36 = some (.aload_n 0, 1) := by decide +kernel
theorem o202_37 : zop 202 37 = some (.iconst 1, 1) := by decide +kernel
theorem o202_38 : zop 202 38 = some (.invokevirtual 133, 3) := by decide +kernel
theorem o202_41 : zop 202 41 = some (.ireturn, 1) := by decide +kernel
theorem o203_0 : zop 203 0 = some (.aload_n 0, 1) := by decide +kernel
theorem o203_1 : zop 203 1 = some (.iconst 0, 1) := by decide +kernel
theorem o203_2 : zop 203 2 = some (.putfield 1002, 3) := by decide +kernel
theorem o203_5 : zop 203 5 = some (.aload_n 0, 1) := by decide +kernel
theorem o203_6 : zop 203 6 = some (.iload_n 1, 1) := by decide +kernel
theorem o203_7 : zop 203 7 = some (.invokevirtual 168, 3) := by decide +kernel
theorem o203_10 : zop 203 10 = some (.ifCond .eq 22, 3) := by decide +kernel
theorem o203_13 : zop 203 13 = some (.aload_n 0, 1) := by decide +kernel
theorem o203_14 : zop 203 14 = some (.iload_n 2, 1) := by decide +kernel
theorem o203_15 : zop 203 15 = some (.invokevirtual 176, 3) := by decide +kernel
theorem o203_18 : zop 203 18 = some (.ifCond .eq 14, 3) := by decide +kernel
theorem o203_21 : zop 203 21 = some (.iload 5, 2) := by decide +kernel
theorem o203_23 : zop 203 23 = some (.ifCond .lt 9, 3) := by decide +kernel
theorem o203_26 : zop 203 26 = some (.iload 5, 2) := by decide +kernel
theorem o203_28 : zop 203 28 = some (.iconst 1, 1) := by decide +kernel
theorem o203_29 : zop 203 29 = some (.if_icmp .le 9, 3) := by decide +kernel
theorem o203_32 : zop 203 32 = some (.aload_n 0, 1) := by decide +kernel
theorem o203_33 : zop 203 33 = some (.iconst 1, 1) := by decide +kernel
theorem o203_34 : zop 203 34 = some (.invokevirtual 133, 3) := by decide +kernel
theorem o203_37 : zop 203 37 = some (.ireturn, 1) := by decide +kernel
theorem o203_38 : zop 203 38 = some (.iload_n 3, 1) := by decide +kernel
theorem o203_39 : zop 203 39 = some (.ifCond .lt 18, 3) := by decide +kernel
theorem o203_42 : zop 203 42 = some (.iload 4, 2) := by decide +kernel
theorem o203_44 : zop 203 44 = some (.iload_n 3, 1) := by decide +kernel
theorem o203_45 : zop 203 45 = some (.if_icmp .le 12, 3) := by decide +kernel
theorem o203_48 : zop 203 48 = some (.iload 4, 2) := by decide +kernel
theorem o203_50 : zop 203 50 = some (.aload_n 0, 1) := by decide +kernel
theorem o203_51 : zop 203 51 = some (.getfield 1030, 3) := by decide +kernel
theorem o203_54 : zop 203 54 = some (.if_icmp .le 9, 3) := by decide +kernel
theorem o203_57 : zop 203 57 = some (.aload_n 0, 1) := by decide +kernel
theorem o203_58 : zop 203 58 = some (.iconst 2, 1) := by decide +kernel
theorem o203_59 : zop 203 59 = some (.invokevirtual 133, 3) := by decide +kernel
theorem o203_62 : zop 203 62 = some (.ireturn, 1) := by decide +kernel
theorem o203_63 : zop 203 63 = some (.iconst 0, 1) := by decide +kernel
theorem o203_64 : zop 203 64 = some (.istore 6, 2) := by decide +kernel
theorem o203_66 : zop 203 66 = some (.iconst 0, 1) := by decide +kernel
theorem o203_67 : zop 203 67 = some (.istore 7, 2) := by decide +kernel
theorem o203_69 : zop 203 69 = some (.iload_n 3, 1) := by decide +kernel
theorem o203_70 : zop 203 70 = some (.istore 8, 2) := by decide +kernel
theorem o203_72 : zop 203 72 = some (.iload 8, 2) := by decide +kernel
theorem o203_74 : zop 203 74 = some (.iload 4, 2) := by decide +kernel
theorem o203_76 : zop 203 76 = some (.if_icmp .ge 105, 3) := by decide +kernel
theorem o203_79 : zop 203 79 = some (.aload_n 0, 1) := by decide +kernel
theorem o203_80 : zop 203 80 = some (.getfield 1034, 3) := by decide +kernel
theorem o203_83 : zop 203 83 = some (.bipush 6, 2) := by decide +kernel
theorem o203_85 : zop 203 85 = some (.iload 8, 2) := by decide +kernel
theorem o203_87 : zop 203 87 = some (.imul, 1) := by decide +kernel
theorem o203_88 : zop 203 88 = some (.iconst 1, 1) := by decide +kernel
theorem o203_89 : zop 203 89 = some (.iadd, 1) := by decide +kernel
theorem o203_90 : zop 203 90 = some (.iaload, 1) := by decide +kernel
theorem o203_91 : zop 203 91 = some (.iload_n 1, 1) := by decide +kernel
theorem o203_92 : zop 203 92 = some (.if_icmp .ne 83, 3) := by decide +kernel
theorem o203_95 : zop 203 95 = some (.aload_n 0, 1) := by decide +kernel
theorem o203_96 : zop 203 96 = some (.getfield 1034, 3) := by decide +kernel
theorem o203_99 : zop 203 99 = some (.bipush 6, 2) := by decide +kernel
theorem o203_101 : zop 203 101 = some (.iload 8, 2) := by decide +kernel
theorem o203_103 : zop 203 103 = some (.imul, 1) := by decide +kernel
theorem o203_104 : zop 203 104 = some (.iconst 4, 1) := by decide +kernel
theorem o203_105 : zop 203 105 = some (.iadd, 1) := by decide +kernel
theorem o203_106 : zop 203 106 = some (.iaload, 1) := by decide +kernel
theorem o203_107 : zop 203 107 = some (.ifCond .ne 6, 3) := by decide +kernel
theorem o203_110 : zop 203 110 = some (.goto 65, 3) := by decide +kernel
theorem o203_113 : zop 203 113 = some (.iload 7, 2) := by decide +kernel
theorem o203_115 : zop 203 115 = some (.aload_n 0, 1) := by decide +kernel
theorem o203_116 : zop 203 116 = some (.getfield 1005, 3) := by decide +kernel
theorem o203_119 : zop 203 119 = some (.aload_n 0, 1) := by decide +kernel
theorem o203_120 : zop 203 120 = some (.getfield 1034, 3) := by decide +kernel
theorem o203_123 : zop 203 123 = some (.bipush 6, 2) := by decide +kernel
theorem o203_125 : zop 203 125 = some (.iload 8, 2) := by decide +kernel
theorem o203_127 : zop 203 127 = some (.imul, 1) := by decide +kernel
theorem o203_128 : zop 203 128 = some (.iconst 2, 1) := by decide +kernel
theorem o203_129 : zop 203 129 = some (.iadd, 1) := by decide +kernel
theorem o203_130 : zop 203 130 = some (.iaload, 1) := by decide +kernel
theorem o203_131 : zop 203 131 = some (.iaload, 1) := by decide +kernel
theorem o203_132 : zop 203 132 = some (.iadd, 1) := by decide +kernel
theorem o203_133 : zop 203 133 = some (.istore 7, 2) := by decide +kernel
theorem o203_135 : zop 203 135 = some (.iload 6, 2) := by decide +kernel
theorem o203_137 : zop 203 137 = some (.aload_n 0, 1) := by decide +kernel
theorem o203_138 : zop 203 138 = some (.getfield 1034, 3) := by decide +kernel
theorem o203_141 : zop 203 141 = some (.bipush 6, 2) := by decide +kernel
theorem o203_143 : zop 203 143 = some (.iload 8, 2) := by decide +kernel
theorem o203_145 : zop 203 145 = some (.imul, 1) := by decide +kernel
theorem o203_146 : zop 203 146 = some (.iaload, 1) := by decide +kernel
theorem o203_147 : zop 203 147 = some (.iload_n 2, 1) := by decide +kernel
theorem o203_148 : zop 203 148 = some (.if_icmp .ne 23, 3) := by decide +kernel
theorem o203_151 : zop 203 151 = some (.aload_n 0, 1) := by decide +kernel
theorem o203_152 : zop 203 152 = some (.getfield 1005, 3) := by decide +kernel
theorem o203_155 : zop 203 155 = some (.aload_n 0, 1) := by decide +kernel
theorem o203_156 : zop 203 156 = some (.getfield 1034, 3) := by decide +kernel
theorem o203_159 : zop 203 159 = some (.bipush 6, 2) := by decide +kernel
theorem o203_161 : zop 203 161 = some (.iload 8, 2) := by decide +kernel
theorem o203_163 : zop 203 163 = some (.imul, 1) := by decide +kernel
theorem o203_164 : zop 203 164 = some (.iconst 2, 1) := by decide +kernel
theorem o203_165 : zop 203 165 = some (.iadd, 1) := by decide +kernel
theorem o203_166 : zop 203 166 = some (.iaload, 1) := by decide +kernel
theorem o203_167 : zop 203 167 = some (.iaload, 1) := by decide +kernel
theorem o203_168 : zop 203 168 = some (.goto 4, 3) := by decide +kernel
theorem o203_171 : zop 203 171 = some (.iconst 0, 1) := by decide +kernel
theorem o203_172 : zop 203 172 = some (.iadd, 1) := by decide +kernel
theorem o203_173 : zop 203 173 = some (.istore 6, 2) := by decide +kernel
theorem o203_175 : zop 203 175 = some (.iinc 8 1, 3) := by decide +kernel
theorem o203_178 : zop 203 178 = some (.goto (-106), 3) := by decide +kernel
theorem o203_181 : zop 203 181 = some (.iload 7, 2) := by decide +kernel
theorem o203_183 : zop 203 183 = some (.ifCond .ne 7, 3) := by decide +kernel
theorem o203_186 : zop 203 186 = some (.iconst 1, 1) := by decide +kernel
theorem o203_187 : zop 203 187 = some (.goto 10, 3) := by decide +kernel
theorem o203_190 : zop 203 190 = some (.iload 7, 2) := by decide +kernel
theorem o203_192 : zop 203 192 = some (.iload 6, 2) := by decide +kernel
theorem o203_194 : zop 203 194 = some (.invokestatic 204, 3) := by decide +kernel
theorem o203_197 : zop 203 197 = some (.istore 8, 2) := by decide +kernel
theorem o203_199 : zop 203 199 = some (.iload 5, 2) := by decide +kernel
theorem o203_201 : zop 203 201 = some (.ifCond .ne 11, 3) := by decide +kernel
theorem o203_204 : zop 203 204 = some (.iload 6, 2) := by decide +kernel
theorem o203_206 : zop 203 206 = some (.iload 8, 2) := by decide +kernel
theorem o203_208 : zop 203 208 = some (.idiv, 1) := by decide +kernel
theorem o203_209 : zop 203 209 = some (.goto 17, 3) := by decide +kernel
theorem o203_212 : zop 203 212 = some (.iload 7, 2) := by decide +kernel
theorem o203_214 : zop 203 214 = some (.ifCond .ne 7, 3) := by decide +kernel
theorem o203_217 : zop 203 217 = some (.iconst 1, 1) := by decide +kernel
theorem o203_218 : zop 203 218 = some (.goto 8, 3) := by decide +kernel
theorem o203_221 : zop 203 221 = some (.iload 7, 2) := by decide +kernel
theorem o203_223 : zop 203 223 = some (.iload 8, 2) := by decide +kernel
theorem o203_225 : zop 203 225 = some (.idiv, 1) := by decide +kernel
theorem o203_226 : zop 203 226 = some (.ireturn, 1) := by decide +kernel
theorem o204_0 : zop 204 0 = some (.iload_n 0, 1) := by decide +kernel
theorem o204_1 : zop 204 1 = some (.istore_n 2, 1) := by decide +kernel
theorem o204_2 : zop 204 2 = some (.iload_n 1, 1) := by decide +kernel
theorem o204_3 : zop 204 3 = some (.istore_n 3, 1) := by decide +kernel
theorem o204_4 : zop 204 4 = some (.iload_n 3, 1) := by decide +kernel
theorem o204_5 : zop 204 5 = some (.ifCond .eq 16, 3) := by decide +kernel
theorem o204_8 : zop 204 8 = some (.iload_n 2, 1) := by decide +kernel
theorem o204_9 : zop 204 9 = some (.iload_n 3, 1) := by decide +kernel
theorem o204_10 : zop 204 10 = some (.irem, 1) := by decide +kernel
theorem o204_11 : zop 204 11 = some (.istore 4, 2) := by decide +kernel
theorem o204_13 : zop 204 13 = some (.iload_n 3, 1) := by decide +kernel
theorem o204_14 : zop 204 14 = some (.istore_n 2, 1) := by decide +kernel
theorem o204_15 : zop 204 15 = some (.iload 4, 2) := by decide +kernel
theorem o204_17 : zop 204 17 = some (.istore_n 3, 1) := by decide +kernel
theorem o204_18 : zop 204 18 = some (.goto (-14), 3) := by decide +kernel
theorem o204_21 : zop 204 21 = some (.iload_n 2, 1) := by decide +kernel
theorem o204_22 : zop 204 22 = some (.ireturn, 1) := by decide +kernel
theorem o205_0 : zop 205 0 = some (.aload_n 0, 1) := by decide +kernel
theorem o205_1 : zop 205 1 = some (.iconst 0, 1) := by decide +kernel
theorem o205_2 : zop 205 2 = some (.putfield 1002, 3) := by decide +kernel
theorem o205_5 : zop 205 5 = some (.aload_n 0, 1) := by decide +kernel
theorem o205_6 : zop 205 6 = some (.iload_n 1, 1) := by decide +kernel
theorem o205_7 : zop 205 7 = some (.invokevirtual 168, 3) := by decide +kernel
theorem o205_10 : zop 205 10 = some (.ifCond .ne 9, 3) := by decide +kernel
theorem o205_13 : zop 205 13 = some (.aload_n 0, 1) := by decide +kernel
theorem o205_14 : zop 205 14 = some (.iconst 1, 1) := by decide +kernel
theorem o205_15 : zop 205 15 = some (.invokevirtual 133, 3) := by decide +kernel
theorem o205_18 : zop 205 18 = some (.ireturn, 1) := by decide +kernel
theorem o205_19 : zop 205 19 = some (.iload_n 3, 1) := by decide +kernel
theorem o205_20 : zop 205 20 = some (.iconst 0, 1) := by decide +kernel
theorem o205_21 : zop 205 21 = some (.bipush 60, 2) := by decide +kernel
theorem o205_23 : zop 205 23 = some (.invokestatic 169, 3) := by decide +kernel
theorem o205_26 : zop 205 26 = some (.ifCond .ne 9, 3) := by decide +kernel
theorem o205_29 : zop 205 29 = some (.aload_n 0, 1) := by decide +kernel
theorem o205_30 : zop 205 30 = some (.iconst 2, 1) := by decide +kernel
theorem o205_31 : zop 205 31 = some (.invokevirtual 133, 3) := by decide +kernel
theorem o205_34 : zop 205 34 = some (.ireturn, 1) := by decide +kernel
theorem o205_35 : zop 205 35 = some (.iload_n 3, 1) := by decide +kernel
theorem o205_36 : zop 205 36 = some (.ifCond .le 11, 3) := by decide +kernel
theorem o205_39 : zop 205 39 = some (.aload_n 0, 1) := by decide +kernel
theorem o205_40 : zop 205 40 = some (.aload_n 0, 1) := by decide +kernel
theorem o205_41 : zop 205 41 = some (.getfield 1030, 3) := by decide +kernel
theorem o205_44 : zop 205 44 = some (.putfield 1031, 3) := by decide +kernel
theorem o205_47 : zop 205 47 = some (.aload_n 0, 1) := by decide +kernel
theorem o205_48 : zop 205 48 = some (.iload_n 2, 1) := by decide +kernel
theorem o205_49 : zop 205 49 = some (.putfield 1048, 3) := by decide +kernel
theorem o205_52 : zop 205 52 = some (.aload_n 0, 1) := by decide +kernel
theorem o205_53 : zop 205 53 = some (.aload_n 0, 1) := by decide +kernel
theorem o205_54 : zop 205 54 = some (.getfield 1024, 3) := by decide +kernel
theorem o205_57 : zop 205 57 = some (.iload_n 1, 1) := by decide +kernel
theorem o205_58 : zop 205 58 = some (.invokevirtual 165, 3) := by decide +kernel
theorem o205_61 : zop 205 61 = some (.istore 4, 2) := by decide +kernel
theorem o205_63 : zop 205 63 = some (.iconst 0, 1) := by decide +kernel
theorem o205_64 : zop 205 64 = some (.istore 5, 2) := by decide +kernel
theorem o205_66 : zop 205 66 = some (.iload 5, 2) := by decide +kernel
theorem o205_68 : zop 205 68 = some (.iload_n 3, 1) := by decide +kernel
theorem o205_69 : zop 205 69 = some (.if_icmp .ge 85, 3) := by decide +kernel
theorem o205_72 : zop 205 72 = some (.iload 4, 2) := by decide +kernel
theorem o205_74 : zop 205 74 = some (.iconst 1, 1) := by decide +kernel
theorem o205_75 : zop 205 75 = some (.if_icmp .le 79, 3) := by decide +kernel
theorem o205_78 : zop 205 78 = some (.aload_n 0, 1) := by decide +kernel
theorem o205_79 : zop 205 79 = some (.iload_n 1, 1) := by decide +kernel
theorem o205_80 : zop 205 80 = some (.aload_n 0, 1) := by decide +kernel
theorem o205_81 : zop 205 81 = some (.iload 4, 2) := by decide +kernel
theorem o205_83 : zop 205 83 = some (.invokevirtual 206, 3) := by decide +kernel
theorem o205_86 : zop 205 86 = some (.invokevirtual 174, 3) := by decide +kernel
theorem o205_89 : zop 205 89 = some (.istore 6, 2) := by decide +kernel
theorem o205_91 : zop 205 91 = some (.aload_n 0, 1) := by decide +kernel
theorem o205_92 : zop 205 92 = some (.iload_n 1, 1) := by decide +kernel
theorem o205_93 : zop 205 93 = some (.aload_n 0, 1) := by decide +kernel
theorem o205_94 : zop 205 94 = some (.iload 4, 2) := by decide +kernel
theorem o205_96 : zop 205 96 = some (.invokevirtual 206, 3) := by decide +kernel
theorem o205_99 : zop 205 99 = some (.invokevirtual 174, 3) := by decide +kernel
theorem o205_102 : zop 205 102 = some (.istore 7, 2) := by decide +kernel
theorem o205_104 : zop 205 104 = some (.aload_n 0, 1) := by decide +kernel
theorem o205_105 : zop 205 105 = some (.getfield 1024, 3) := by decide +kernel
theorem o205_108 : zop 205 108 = some (.bipush 40, 2) := by decide +kernel
theorem o205_110 : zop 205 110 = some (.iload 6, 2) := by decide +kernel
theorem o205_112 : zop 205 112 = some (.iadd, 1) := by decide +kernel
theorem o205_113 : zop 205 113 = some (.iaload, 1) := by decide +kernel
theorem o205_114 : zop 205 114 = some (.istore 8, 2) := by decide +kernel
theorem o205_116 : zop 205 116 = some (.aload_n 0, 1) := by decide +kernel
theorem o205_117 : zop 205 117 = some (.getfield 1024, 3) := by decide +kernel
theorem o205_120 : zop 205 120 = some (.bipush 40, 2) := by decide +kernel
theorem o205_122 : zop 205 122 = some (.iload 6, 2) := by decide +kernel
theorem o205_124 : zop 205 124 = some (.iadd, 1) := by decide +kernel
theorem o205_125 : zop 205 125 = some (.aload_n 0, 1) := by decide +kernel
theorem o205_126 : zop 205 126 = some (.getfield 1024, 3) := by decide +kernel
theorem o205_129 : zop 205 129 = some (.bipush 40, 2) := by decide +kernel
theorem o205_131 : zop 205 131 = some (.iload 7, 2) := by decide +kernel
theorem o205_133 : zop 205 133 = some (.iadd, 1) := by decide +kernel
theorem o205_134 : zop 205 134 = some (.iaload, 1) := by decide +kernel
theorem o205_135 : zop 205 135 = some (.iastore, 1) := by decide +kernel
theorem o205_136 : zop 205 136 = some (.aload_n 0, 1) := by decide +kernel
theorem o205_137 : zop 205 137 = some (.getfield 1024, 3) := by decide +kernel
theorem o205_140 : zop 205 140 = some (.bipush 40, 2) := by decide +kernel
theorem o205_142 : zop 205 142 = some (.iload 7, 2) := by decide +kernel
theorem o205_144 : zop 205 144 = some (.iadd, 1) := by decide +kernel
theorem o205_145 : zop 205 145 = some (.iload 8, 2) := by decide +kernel
theorem o205_147 : zop 205 147 = some (.iastore, 1) := by decide +kernel
theorem o205_148 : zop 205 148 = some (.iinc 5 1, 3) := by decide +kernel
theorem o205_151 : zop 205 151 = some (.goto (-85), 3) := by decide +kernel
theorem o205_154 : zop 205 154 = some (.aload_n 0, 1) := by decide +kernel
theorem o205_155 : zop 205 155 = some (.iload_n 1, 1) := by decide +kernel
theorem o205_156 : zop 205 156 = some (.iconst 0, 1) := by decide +kernel
theorem o205_157 : zop 205 157 = some (.invokevirtual 174, 3) := by decide +kernel
theorem o205_160 : zop 205 160 = some (.ireturn, 1) := by decide +kernel
theorem o206_0 : zop 206 0 = some (.aload_n 0, 1) := by decide +kernel
theorem o206_1 : zop 206 1 = some (.aload_n 0, 1) := by decide +kernel
theorem o206_2 : zop 206 2 = some (.getfield 1048, 3) := by decide +kernel
theorem o206_5 : zop 206 5 = some (.ldc_w 1002, 3) := by decide +kernel
theorem o206_8 : zop 206 8 = some (.imul, 1) := by decide +kernel
theorem o206_9 : zop 206 9 = some (.sipush 12345, 3) := by decide +kernel
theorem o206_12 : zop 206 12 = some (.iadd, 1) := by decide +kernel
theorem o206_13 : zop 206 13 = some (.putfield 1048, 3) := by decide +kernel
theorem o206_16 : zop 206 16 = some (.aload_n 0, 1) := by decide +kernel
theorem o206_17 : zop 206 17 = some (.getfield 1048, 3) := by decide +kernel
theorem o206_20 : zop 206 20 = some (.bipush 16, 2) := by decide +kernel
theorem o206_22 : zop 206 22 = some (.ishr, 1) := by decide +kernel
theorem o206_23 : zop 206 23 = some (.sipush 32767, 3) := by decide +kernel
theorem o206_26 : zop 206 26 = some (.iand, 1) := by decide +kernel
theorem o206_27 : zop 206 27 = some (.iload_n 1, 1) := by decide +kernel
theorem o206_28 : zop 206 28 = some (.irem, 1) := by decide +kernel
theorem o206_29 : zop 206 29 = some (.ireturn, 1) := by decide +kernel
theorem o207_0 : zop 207 0 = some (.aload_n 0, 1) := by decide +kernel
theorem o207_1 : zop 207 1 = some (.iconst 0, 1) := by decide +kernel
theorem o207_2 : zop 207 2 = some (.putfield 1002, 3) := by decide +kernel
theorem o207_5 : zop 207 5 = some (.aload_n 0, 1) := by decide +kernel
theorem o207_6 : zop 207 6 = some (.iconst 1, 1) := by decide +kernel
theorem o207_7 : zop 207 7 = some (.putfield 1049, 3) := by decide +kernel
theorem o207_10 : zop 207 10 = some (.aload_n 0, 1) := by decide +kernel
theorem o207_11 : zop 207 11 = some (.aload_n 0, 1) := by decide +kernel
theorem o207_12 : zop 207 12 = some (.getfield 1030, 3) := by decide +kernel
theorem o207_15 : zop 207 15 = some (.putfield 1050, 3) := by decide +kernel
theorem o207_18 : zop 207 18 = some (.aload_n 0, 1) := by decide +kernel
theorem o207_19 : zop 207 19 = some (.aload_n 0, 1) := by decide +kernel
theorem o207_20 : zop 207 20 = some (.getfield 1031, 3) := by decide +kernel
theorem o207_23 : zop 207 23 = some (.putfield 1051, 3) := by decide +kernel
theorem o207_26 : zop 207 26 = some (.aload_n 0, 1) := by decide +kernel
theorem o207_27 : zop 207 27 = some (.aload_n 0, 1) := by decide +kernel
theorem o207_28 : zop 207 28 = some (.getfield 1032, 3) := by decide +kernel
theorem o207_31 : zop 207 31 = some (.putfield 1052, 3) := by decide +kernel
theorem o207_34 : zop 207 34 = some (.aload_n 0, 1) := by decide +kernel
theorem o207_35 : zop 207 35 = some (.aload_n 0, 1) := by decide +kernel
theorem o207_36 : zop 207 36 = some (.getfield 1033, 3) := by decide +kernel
theorem o207_39 : zop 207 39 = some (.putfield 1053, 3) := by decide +kernel
theorem o207_42 : zop 207 42 = some (.aload_n 0, 1) := by decide +kernel
theorem o207_43 : zop 207 43 = some (.getfield 1054, 3) := by decide +kernel
theorem o207_46 : zop 207 46 = some (.aload_n 0, 1) := by decide +kernel
theorem o207_47 : zop 207 47 = some (.getfield 1024, 3) := by decide +kernel
theorem o207_50 : zop 207 50 = some (.invokestatic 195, 3) := by decide +kernel
theorem o207_53 : zop 207 53 = some (.aload_n 0, 1) := by decide +kernel
theorem o207_54 : zop 207 54 = some (.getfield 1055, 3) := by decide +kernel
theorem o207_57 : zop 207 57 = some (.aload_n 0, 1) := by decide +kernel
theorem o207_58 : zop 207 58 = some (.getfield 1026, 3) := by decide +kernel
theorem o207_61 : zop 207 61 = some (.invokestatic 195, 3) := by decide +kernel
theorem o207_64 : zop 207 64 = some (.aload_n 0, 1) := by decide +kernel
theorem o207_65 : zop 207 65 = some (.getfield 1056, 3) := by decide +kernel
theorem o207_68 : zop 207 68 = some (.aload_n 0, 1) := by decide +kernel
theorem o207_69 : zop 207 69 = some (.getfield 1034, 3) := by decide +kernel
theorem o207_72 : zop 207 72 = some (.invokestatic 195, 3) := by decide +kernel
theorem o207_75 : zop 207 75 = some (.aload_n 0, 1) := by decide +kernel
theorem o207_76 : zop 207 76 = some (.getfield 1057, 3) := by decide +kernel
theorem o207_79 : zop 207 79 = some (.aload_n 0, 1) := by decide +kernel
theorem o207_80 : zop 207 80 = some (.getfield 1035, 3) := by decide +kernel
theorem o207_83 : zop 207 83 = some (.invokestatic 195, 3) := by decide +kernel
theorem o207_86 : zop 207 86 = some (.aload_n 0, 1) := by decide +kernel
theorem o207_87 : zop 207 87 = some (.getfield 1058, 3) := by decide +kernel
theorem o207_90 : zop 207 90 = some (.aload_n 0, 1) := by decide +kernel
theorem o207_91 : zop 207 91 = some (.getfield 1036, 3) := by decide +kernel
theorem o207_94 : zop 207 94 = some (.invokestatic 195, 3) := by decide +kernel
theorem o207_97 : zop 207 97 = some (.aload_n 0, 1) := by decide +kernel
theorem o207_98 : zop 207 98 = some (.getfield 1059, 3) := by decide +kernel
theorem o207_101 : zop 207 101 = some (.aload_n 0, 1) := by decide +kernel
theorem o207_102 : zop 207 102 = some (.getfield 1040, 3) := by decide +kernel
theorem o207_105 : zop 207 105 = some (.invokestatic 195, 3) := by decide +kernel
theorem o207_108 : zop 207 108 = some (.aload_n 0, 1) := by decide +kernel
theorem o207_109 : zop 207 109 = some (.getfield 1060, 3) := by decide +kernel
theorem o207_112 : zop 207 112 = some (.aload_n 0, 1) := by decide +kernel
theorem o207_113 : zop 207 113 = some (.getfield 1041, 3) := by decide +kernel
theorem o207_116 : zop 207 116 = some (.invokestatic 195, 3) := by decide +kernel
theorem o207_119 : zop 207 119 = some (.aload_n 0, 1) := by decide +kernel
theorem o207_120 : zop 207 120 = some (.getfield 1061, 3) := by decide +kernel
theorem o207_123 : zop 207 123 = some (.aload_n 0, 1) := by decide +kernel
theorem o207_124 : zop 207 124 = some (.getfield 1042, 3) := by decide +kernel
theorem o207_127 : zop 207 127 = some (.invokestatic 195, 3) := by decide +kernel
theorem o207_130 : zop 207 130 = some (.aload_n 0, 1) := by decide +kernel
theorem o207_131 : zop 207 131 = some (.getfield 1062, 3) := by decide +kernel
theorem o207_134 : zop 207 134 = some (.aload_n 0, 1) := by decide +kernel
theorem o207_135 : zop 207 135 = some (.getfield 1012, 3) := by decide +kernel
theorem o207_138 : zop 207 138 = some (.invokestatic 195, 3) := by decide +kernel
theorem o207_141 : zop 207 141 = some (.return_, 1) := by decide +kernel
theorem o208_0 : zop 208 0 = some (.aload_n 0, 1) := by decide +kernel
theorem o208_1 : zop 208 1 = some (.iconst 0, 1) := by decide +kernel
theorem o208_2 : zop 208 2 = some (.putfield 1002, 3) := by decide +kernel
theorem o208_5 : zop 208 5 = some (.aload_n 0, 1) := by decide +kernel
theorem o208_6 : zop 208 6 = some (.getfield 1049, 3) := by decide +kernel
theorem o208_9 : zop 208 9 = some (.ifCond .ne 5, 3) := by decide +kernel
theorem o208_12 : zop 208 12 = some (.iconst 0, 1) := by decide +kernel
theorem o208_13 : zop 208 13 = some (.ireturn, 1) := by decide +kernel
theorem o208_14 : zop 208 14 = some (.aload_n 0, 1) := by decide +kernel
theorem o208_15 : zop 208 15 = some (.aload_n 0, 1) := by decide +kernel
theorem o208_16 : zop 208 16 = some (.getfield 1050, 3) := by decide +kernel
theorem o208_19 : zop 208 19 = some (.putfield 1030, 3) := by decide +kernel
theorem o208_22 : zop 208 22 = some (.aload_n 0, 1) := by decide +kernel
theorem o208_23 : zop 208 23 = some (.aload_n 0, 1) := by decide +kernel
theorem o208_24 : zop 208 24 = some (.getfield 1051, 3) := by decide +kernel
theorem o208_27 : zop 208 27 = some (.putfield 1031, 3) := by decide +kernel
theorem o208_30 : zop 208 30 = some (.aload_n 0, 1) := by decide +kernel
theorem o208_31 : zop 208 31 = some (.aload_n 0, 1) := by decide +kernel
theorem o208_32 : zop 208 32 = some (.getfield 1052, 3) := by decide +kernel
theorem o208_35 : zop 208 35 = some (.putfield 1032, 3) := by decide +kernel
theorem o208_38 : zop 208 38 = some (.aload_n 0, 1) := by decide +kernel
theorem o208_39 : zop 208 39 = some (.aload_n 0, 1) := by decide +kernel
theorem o208_40 : zop 208 40 = some (.getfield 1053, 3) := by decide +kernel
theorem o208_43 : zop 208 43 = some (.putfield 1033, 3) := by decide +kernel
theorem o208_46 : zop 208 46 = some (.aload_n 0, 1) := by decide +kernel
theorem o208_47 : zop 208 47 = some (.getfield 1024, 3) := by decide +kernel
theorem o208_50 : zop 208 50 = some (.aload_n 0, 1) := by decide +kernel
theorem o208_51 : zop 208 51 = some (.getfield 1054, 3) := by decide +kernel
theorem o208_54 : zop 208 54 = some (.invokestatic 195, 3) := by decide +kernel
theorem o208_57 : zop 208 57 = some (.aload_n 0, 1) := by decide +kernel
theorem o208_58 : zop 208 58 = some (.getfield 1026, 3) := by decide +kernel
theorem o208_61 : zop 208 61 = some (.aload_n 0, 1) := by decide +kernel
theorem o208_62 : zop 208 62 = some (.getfield 1055, 3) := by decide +kernel
theorem o208_65 : zop 208 65 = some (.invokestatic 195, 3) := by decide +kernel
theorem o208_68 : zop 208 68 = some (.aload_n 0, 1) := by decide +kernel
theorem o208_69 : zop 208 69 = some (.getfield 1034, 3) := by decide +kernel
theorem o208_72 : zop 208 72 = some (.aload_n 0, 1) := by decide +kernel
theorem o208_73 : zop 208 73 = some (.getfield 1056, 3) := by decide +kernel
theorem o208_76 : zop 208 76 = some (.invokestatic 195, 3) := by decide +kernel
theorem o208_79 : zop 208 79 = some (.aload_n 0, 1) := by decide +kernel
theorem o208_80 : zop 208 80 = some (.getfield 1035, 3) := by decide +kernel
theorem o208_83 : zop 208 83 = some (.aload_n 0, 1) := by decide +kernel
theorem o208_84 : zop 208 84 = some (.getfield 1057, 3) := by decide +kernel
theorem o208_87 : zop 208 87 = some (.invokestatic 195, 3) := by decide +kernel
theorem o208_90 : zop 208 90 = some (.aload_n 0, 1) := by decide +kernel
theorem o208_91 : zop 208 91 = some (.getfield 1036, 3) := by decide +kernel
theorem o208_94 : zop 208 94 = some (.aload_n 0, 1) := by decide +kernel
theorem o208_95 : zop 208 95 = some (.getfield 1058, 3) := by decide +kernel
theorem o208_98 : zop 208 98 = some (.invokestatic 195, 3) := by decide +kernel
theorem o208_101 : zop 208 101 = some (.aload_n 0, 1) := by decide +kernel
theorem o208_102 : zop 208 102 = some (.getfield 1040, 3) := by decide +kernel
theorem o208_105 : zop 208 105 = some (.aload_n 0, 1) := by decide +kernel
theorem o208_106 : zop 208 106 = some (.getfield 1059, 3) := by decide +kernel
theorem o208_109 : zop 208 109 = some (.invokestatic 195, 3) := by decide +kernel
theorem o208_112 : zop 208 112 = some (.aload_n 0, 1) := by decide +kernel
theorem o208_113 : zop 208 113 = some (.getfield 1041, 3) := by decide +kernel
theorem o208_116 : zop 208 116 = some (.aload_n 0, 1) := by decide +kernel
theorem o208_117 : zop 208 117 = some (.getfield 1060, 3) := by decide +kernel
theorem o208_120 : zop 208 120 = some (.invokestatic 195, 3) := by decide +kernel
theorem o208_123 : zop 208 123 = some (.aload_n 0, 1) := by decide +kernel
theorem o208_124 : zop 208 124 = some (.getfield 1042, 3) := by decide +kernel
theorem o208_127 : zop 208 127 = some (.aload_n 0, 1) := by decide +kernel
theorem o208_128 : zop 208 128 = some (.getfield 1061, 3) := by decide +kernel
theorem o208_131 : zop 208 131 = some (.invokestatic 195, 3) := by decide +kernel
theorem o208_134 : zop 208 134 = some (.aload_n 0, 1) := by decide +kernel
theorem o208_135 : zop 208 135 = some (.getfield 1012, 3) := by decide +kernel
theorem o208_138 : zop 208 138 = some (.aload_n 0, 1) := by decide +kernel
theorem o208_139 : zop 208 139 = some (.getfield 1062, 3) := by decide +kernel
theorem o208_142 : zop 208 142 = some (.invokestatic 195, 3) := by decide +kernel
theorem o208_145 : zop 208 145 = some (.iconst 1, 1) := by decide +kernel
theorem o208_146 : zop 208 146 = some (.ireturn, 1) := by decide +kernel
theorem o209_0 : zop 209 0 = some (.aload_n 2, 1) := by decide +kernel
theorem o209_1 : zop 209 1 = some (.iconst 0, 1) := by decide +kernel
theorem o209_2 : zop 209 2 = some (.aload_n 0, 1) := by decide +kernel
theorem o209_3 : zop 209 3 = some (.iload_n 1, 1) := by decide +kernel
theorem o209_4 : zop 209 4 = some (.invokevirtual 106, 3) := by decide +kernel
theorem o209_7 : zop 209 7 = some (.i2l, 1) := by decide +kernel
theorem o209_8 : zop 209 8 = some (.lastore, 1) := by decide +kernel
theorem o209_9 : zop 209 9 = some (.goto 6, 3) := by decide +kernel
theorem o209_12 : zop 209 12 = some (.astore_n 3, 1) := by decide +kernel
theorem o209_13 : zop 209 13 = some (.iconst 1, 1) := by decide +kernel
theorem o209_14 : zop 209 14 = some (.ireturn, 1) := by decide +kernel
theorem o209_15 : zop 209 15 = some (.iconst 0, 1) := by decide +kernel
theorem o209_16 : zop 209 16 = some (.ireturn, 1) := by decide +kernel
theorem o210_0 : zop 210 0 = some (.aload_n 2, 1) := by decide +kernel
theorem o210_1 : zop 210 1 = some (.iconst 0, 1) := by decide +kernel
theorem o210_2 : zop 210 2 = some (.aload_n 0, 1) := by decide +kernel
theorem o210_3 : zop 210 3 = some (.iload_n 1, 1) := by decide +kernel
theorem o210_4 : zop 210 4 = some (.invokevirtual 107, 3) := by decide +kernel
theorem o210_7 : zop 210 7 = some (.i2l, 1) := by decide +kernel
theorem o210_8 : zop 210 8 = some (.lastore, 1) := by decide +kernel
theorem o210_9 : zop 210 9 = some (.goto 6, 3) := by decide +kernel
theorem o210_12 : zop 210 12 = some (.astore_n 3, 1) := by decide +kernel
theorem o210_13 : zop 210 13 = some (.iconst 1, 1) := by decide +kernel
theorem o210_14 : zop 210 14 = some (.ireturn, 1) := by decide +kernel
theorem o210_15 : zop 210 15 = some (.iconst 0, 1) := by decide +kernel
theorem o210_16 : zop 210 16 = some (.ireturn, 1) := by decide +kernel
