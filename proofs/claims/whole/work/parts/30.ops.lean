theorem o0_0 : zop 0 0 = some (.aload_n 0, 1) := by decide +kernel
theorem o0_1 : zop 0 1 = some (.invokespecial 1000, 3) := by decide +kernel
theorem o0_4 : zop 0 4 = some (.aload_n 0, 1) := by decide +kernel
theorem o0_5 : zop 0 5 = some (.iconst 4, 1) := by decide +kernel
theorem o0_6 : zop 0 6 = some (.newarray .int, 2) := by decide +kernel
theorem o0_8 : zop 0 8 = some (.putfield 0, 3) := by decide +kernel
theorem o0_11 : zop 0 11 = some (.aload_n 0, 1) := by decide +kernel
theorem o0_12 : zop 0 12 = some (.iconst 4, 1) := by decide +kernel
theorem o0_13 : zop 0 13 = some (.newarray .int, 2) := by decide +kernel
theorem o0_15 : zop 0 15 = some (.putfield 1, 3) := by decide +kernel
theorem o0_18 : zop 0 18 = some (.aload_n 0, 1) := by decide +kernel
theorem o0_19 : zop 0 19 = some (.iconst 4, 1) := by decide +kernel
theorem o0_20 : zop 0 20 = some (.anewarray 5, 3) := by decide +kernel
theorem o0_23 : zop 0 23 = some (.putfield 2, 3) := by decide +kernel
theorem o0_26 : zop 0 26 = some (.aload_n 0, 1) := by decide +kernel
theorem o0_27 : zop 0 27 = some (.iconst (-1), 1) := by decide +kernel
theorem o0_28 : zop 0 28 = some (.putfield 3, 3) := by decide +kernel
theorem o0_31 : zop 0 31 = some (.aload_n 0, 1) := by decide +kernel
theorem o0_32 : zop 0 32 = some (.iconst (-1), 1) := by decide +kernel
theorem o0_33 : zop 0 33 = some (.putfield 4, 3) := by decide +kernel
theorem o0_36 : zop 0 36 = some (.aload_n 0, 1) := by decide +kernel
theorem o0_37 : zop 0 37 = some (.iconst 0, 1) := by decide +kernel
theorem o0_38 : zop 0 38 = some (.putfield 5, 3) := by decide +kernel
theorem o0_41 : zop 0 41 = some (.aload_n 0, 1) := by decide +kernel
theorem o0_42 : zop 0 42 = some (.iconst 0, 1) := by decide +kernel
theorem o0_43 : zop 0 43 = some (.putfield 6, 3) := by decide +kernel
theorem o0_46 : zop 0 46 = some (.iconst 0, 1) := by decide +kernel
theorem o0_47 : zop 0 47 = some (.istore_n 1, 1) := by decide +kernel
theorem o0_48 : zop 0 48 = some (.iload_n 1, 1) := by decide +kernel
theorem o0_49 : zop 0 49 = some (.iconst 4, 1) := by decide +kernel
theorem o0_50 : zop 0 50 = some (.if_icmp .ge 22, 3) := by decide +kernel
theorem o0_53 : zop 0 53 = some (.aload_n 0, 1) := by decide +kernel
theorem o0_54 : zop 0 54 = some (.getfield 2, 3) := by decide +kernel
theorem o0_57 : zop 0 57 = some (.iload_n 1, 1) := by decide +kernel
theorem o0_58 : zop 0 58 = some (.new 5, 3) := by decide +kernel
theorem o0_61 : zop 0 61 = some (.dup, 1) := by decide +kernel
theorem o0_62 : zop 0 62 = some (.invokespecial 2049, 3) := by decide +kernel
theorem o0_65 : zop 0 65 = some (.aastore, 1) := by decide +kernel
theorem o0_66 : zop 0 66 = some (.iinc 1 1, 3) := by decide +kernel
theorem o0_69 : zop 0 69 = some (.goto (-21), 3) := by decide +kernel
theorem o0_72 : zop 0 72 = some (.return_, 1) := by decide +kernel
theorem o1_0 : zop 1 0 = some (.aload_n 0, 1) := by decide +kernel
theorem o1_1 : zop 1 1 = some (.iconst (-1), 1) := by decide +kernel
theorem o1_2 : zop 1 2 = some (.putfield 3, 3) := by decide +kernel
theorem o1_5 : zop 1 5 = some (.aload_n 0, 1) := by decide +kernel
theorem o1_6 : zop 1 6 = some (.iconst 0, 1) := by decide +kernel
theorem o1_7 : zop 1 7 = some (.putfield 6, 3) := by decide +kernel
theorem o1_10 : zop 1 10 = some (.aload_n 0, 1) := by decide +kernel
theorem o1_11 : zop 1 11 = some (.aload_n 2, 1) := by decide +kernel
theorem o1_12 : zop 1 12 = some (.invokevirtual 2, 3) := by decide +kernel
theorem o1_15 : zop 1 15 = some (.aload_n 0, 1) := by decide +kernel
theorem o1_16 : zop 1 16 = some (.aload_n 1, 1) := by decide +kernel
theorem o1_17 : zop 1 17 = some (.aload_n 2, 1) := by decide +kernel
theorem o1_18 : zop 1 18 = some (.iconst 0, 1) := by decide +kernel
theorem o1_19 : zop 1 19 = some (.invokevirtual 3, 3) := by decide +kernel
theorem o1_22 : zop 1 22 = some (.aload_n 0, 1) := by decide +kernel
theorem o1_23 : zop 1 23 = some (.getfield 6, 3) := by decide +kernel
theorem o1_26 : zop 1 26 = some (.ireturn, 1) := by decide +kernel
theorem o2_0 : zop 2 0 = some (.iconst 0, 1) := by decide +kernel
theorem o2_1 : zop 2 1 = some (.istore_n 2, 1) := by decide +kernel
theorem o2_2 : zop 2 2 = some (.iload_n 2, 1) := by decide +kernel
theorem o2_3 : zop 2 3 = some (.aload_n 1, 1) := by decide +kernel
theorem o2_4 : zop 2 4 = some (.getfield 109, 3) := by decide +kernel
theorem o2_7 : zop 2 7 = some (.if_icmp .ge 77, 3) := by decide +kernel
theorem o2_10 : zop 2 10 = some (.aload_n 1, 1) := by decide +kernel
theorem o2_11 : zop 2 11 = some (.getfield 103, 3) := by decide +kernel
theorem o2_14 : zop 2 14 = some (.iload_n 2, 1) := by decide +kernel
theorem o2_15 : zop 2 15 = some (.iaload, 1) := by decide +kernel
theorem o2_16 : zop 2 16 = some (.istore_n 3, 1) := by decide +kernel
theorem o2_17 : zop 2 17 = some (.aload_n 1, 1) := by decide +kernel
theorem o2_18 : zop 2 18 = some (.getfield 102, 3) := by decide +kernel
theorem o2_21 : zop 2 21 = some (.iload_n 3, 1) := by decide +kernel
theorem o2_22 : zop 2 22 = some (.iaload, 1) := by decide +kernel
theorem o2_23 : zop 2 23 = some (.istore 4, 2) := by decide +kernel
theorem o2_25 : zop 2 25 = some (.iconst 0, 1) := by decide +kernel
theorem o2_26 : zop 2 26 = some (.istore 5, 2) := by decide +kernel
theorem o2_28 : zop 2 28 = some (.iload 5, 2) := by decide +kernel
theorem o2_30 : zop 2 30 = some (.iload_n 2, 1) := by decide +kernel
theorem o2_31 : zop 2 31 = some (.if_icmp .ge 29, 3) := by decide +kernel
theorem o2_34 : zop 2 34 = some (.aload_n 1, 1) := by decide +kernel
theorem o2_35 : zop 2 35 = some (.getfield 103, 3) := by decide +kernel
theorem o2_38 : zop 2 38 = some (.iload 5, 2) := by decide +kernel
theorem o2_40 : zop 2 40 = some (.iaload, 1) := by decide +kernel
theorem o2_41 : zop 2 41 = some (.iload_n 3, 1) := by decide +kernel
theorem o2_42 : zop 2 42 = some (.if_icmp .ne 12, 3) := by decide +kernel
theorem o2_45 : zop 2 45 = some (.aload_n 1, 1) := by decide +kernel
theorem o2_46 : zop 2 46 = some (.getfield 104, 3) := by decide +kernel
theorem o2_49 : zop 2 49 = some (.iload 5, 2) := by decide +kernel
theorem o2_51 : zop 2 51 = some (.iaload, 1) := by decide +kernel
theorem o2_52 : zop 2 52 = some (.istore 4, 2) := by decide +kernel
theorem o2_54 : zop 2 54 = some (.iinc 5 1, 3) := by decide +kernel
theorem o2_57 : zop 2 57 = some (.goto (-29), 3) := by decide +kernel
theorem o2_60 : zop 2 60 = some (.aload_n 0, 1) := by decide +kernel
theorem o2_61 : zop 2 61 = some (.getfield 2, 3) := by decide +kernel
theorem o2_64 : zop 2 64 = some (.iload_n 2, 1) := by decide +kernel
theorem o2_65 : zop 2 65 = some (.aaload, 1) := by decide +kernel
theorem o2_66 : zop 2 66 = some (.iload_n 3, 1) := by decide +kernel
theorem o2_67 : zop 2 67 = some (.iload 4, 2) := by decide +kernel
theorem o2_69 : zop 2 69 = some (.aload_n 1, 1) := by decide +kernel
theorem o2_70 : zop 2 70 = some (.getfield 104, 3) := by decide +kernel
theorem o2_73 : zop 2 73 = some (.iload_n 2, 1) := by decide +kernel
theorem o2_74 : zop 2 74 = some (.iaload, 1) := by decide +kernel
theorem o2_75 : zop 2 75 = some (.invokevirtual 50, 3) := by decide +kernel
theorem o2_78 : zop 2 78 = some (.iinc 2 1, 3) := by decide +kernel
theorem o2_81 : zop 2 81 = some (.goto (-79), 3) := by decide +kernel
theorem o2_84 : zop 2 84 = some (.return_, 1) := by decide +kernel
theorem o3_0 : zop 3 0 = some (.iload_n 3, 1) := by decide +kernel
theorem o3_1 : zop 3 1 = some (.aload_n 2, 1) := by decide +kernel
theorem o3_2 : zop 3 2 = some (.getfield 109, 3) := by decide +kernel
theorem o3_5 : zop 3 5 = some (.if_icmp .ge 8, 3) := by decide +kernel
theorem o3_8 : zop 3 8 = some (.iload_n 3, 1) := by decide +kernel
theorem o3_9 : zop 3 9 = some (.iconst 4, 1) := by decide +kernel
theorem o3_10 : zop 3 10 = some (.if_icmp .lt 10, 3) := by decide +kernel
theorem o3_13 : zop 3 13 = some (.aload_n 0, 1) := by decide +kernel
theorem o3_14 : zop 3 14 = some (.aload_n 1, 1) := by decide +kernel
theorem o3_15 : zop 3 15 = some (.aload_n 2, 1) := by decide +kernel
theorem o3_16 : zop 3 16 = some (.invokevirtual 4, 3) := by decide +kernel
theorem o3_19 : zop 3 19 = some (.return_, 1) := by decide +kernel
theorem o3_20 : zop 3 20 = some (.aload_n 0, 1) := by decide +kernel
theorem o3_21 : zop 3 21 = some (.getfield 2, 3) := by decide +kernel
theorem o3_24 : zop 3 24 = some (.iload_n 3, 1) := by decide +kernel
theorem o3_25 : zop 3 25 = some (.aaload, 1) := by decide +kernel
theorem o3_26 : zop 3 26 = some (.astore 4, 2) := by decide +kernel
theorem o3_28 : zop 3 28 = some (.aload 4, 2) := by decide +kernel
theorem o3_30 : zop 3 30 = some (.getfield 501, 3) := by decide +kernel
theorem o3_33 : zop 3 33 = some (.aload 4, 2) := by decide +kernel
theorem o3_35 : zop 3 35 = some (.getfield 502, 3) := by decide +kernel
theorem o3_38 : zop 3 38 = some (.if_icmp .ne 7, 3) := by decide +kernel
theorem o3_41 : zop 3 41 = some (.iconst 1, 1) := by decide +kernel
theorem o3_42 : zop 3 42 = some (.goto 4, 3) := by decide +kernel
theorem o3_45 : zop 3 45 = some (.iconst 0, 1) := by decide +kernel
theorem o3_46 : zop 3 46 = some (.istore 5, 2) := by decide +kernel
theorem o3_48 : zop 3 48 = some (.iload 5, 2) := by decide +kernel
theorem o3_50 : zop 3 50 = some (.ifCond .eq 7, 3) := by decide +kernel
theorem o3_53 : zop 3 53 = some (.iconst 0, 1) := by decide +kernel
theorem o3_54 : zop 3 54 = some (.goto 13, 3) := by decide +kernel
theorem o3_57 : zop 3 57 = some (.aload_n 1, 1) := by decide +kernel
theorem o3_58 : zop 3 58 = some (.getfield 705, 3) := by decide +kernel
theorem o3_61 : zop 3 61 = some (.aload 4, 2) := by decide +kernel
theorem o3_63 : zop 3 63 = some (.getfield 500, 3) := by decide +kernel
theorem o3_66 : zop 3 66 = some (.iaload, 1) := by decide +kernel
theorem o3_67 : zop 3 67 = some (.istore 6, 2) := by decide +kernel
theorem o3_69 : zop 3 69 = some (.iload 6, 2) := by decide +kernel
theorem o3_71 : zop 3 71 = some (.ifCond .lt 52, 3) := by decide +kernel
theorem o3_74 : zop 3 74 = some (.iload 5, 2) := by decide +kernel
theorem o3_76 : zop 3 76 = some (.ifCond .ne 24, 3) := by decide +kernel
theorem o3_79 : zop 3 79 = some (.aload 4, 2) := by decide +kernel
theorem o3_81 : zop 3 81 = some (.aload_n 1, 1) := by decide +kernel
theorem o3_82 : zop 3 82 = some (.aload_n 2, 1) := by decide +kernel
theorem o3_83 : zop 3 83 = some (.getfield 100, 3) := by decide +kernel
theorem o3_86 : zop 3 86 = some (.aload_n 1, 1) := by decide +kernel
theorem o3_87 : zop 3 87 = some (.aload 4, 2) := by decide +kernel
theorem o3_89 : zop 3 89 = some (.getfield 500, 3) := by decide +kernel
theorem o3_92 : zop 3 92 = some (.iload 6, 2) := by decide +kernel
theorem o3_94 : zop 3 94 = some (.invokevirtual 71, 3) := by decide +kernel
theorem o3_97 : zop 3 97 = some (.invokevirtual 52, 3) := by decide +kernel
theorem o3_100 : zop 3 100 = some (.aload_n 0, 1) := by decide +kernel
theorem o3_101 : zop 3 101 = some (.getfield 1, 3) := by decide +kernel
theorem o3_104 : zop 3 104 = some (.iload_n 3, 1) := by decide +kernel
theorem o3_105 : zop 3 105 = some (.iload 6, 2) := by decide +kernel
theorem o3_107 : zop 3 107 = some (.iastore, 1) := by decide +kernel
theorem o3_108 : zop 3 108 = some (.aload_n 0, 1) := by decide +kernel
theorem o3_109 : zop 3 109 = some (.aload_n 1, 1) := by decide +kernel
theorem o3_110 : zop 3 110 = some (.aload_n 2, 1) := by decide +kernel
theorem o3_111 : zop 3 111 = some (.iload_n 3, 1) := by decide +kernel
theorem o3_112 : zop 3 112 = some (.iconst 1, 1) := by decide +kernel
theorem o3_113 : zop 3 113 = some (.iadd, 1) := by decide +kernel
theorem o3_114 : zop 3 114 = some (.invokevirtual 3, 3) := by decide +kernel
theorem o3_117 : zop 3 117 = some (.iinc 6 (-1), 3) := by decide +kernel
theorem o3_120 : zop 3 120 = some (.goto (-51), 3) := by decide +kernel
theorem o3_123 : zop 3 123 = some (.aload 4, 2) := by decide +kernel
theorem o3_125 : zop 3 125 = some (.aload_n 1, 1) := by decide +kernel
theorem o3_126 : zop 3 126 = some (.aload_n 2, 1) := by decide +kernel
theorem o3_127 : zop 3 127 = some (.getfield 100, 3) := by decide +kernel
theorem o3_130 : zop 3 130 = some (.invokevirtual 51, 3) := by decide +kernel
theorem o3_133 : zop 3 133 = some (.return_, 1) := by decide +kernel
theorem o4_0 : zop 4 0 = some (.aload_n 0, 1) := by decide +kernel
theorem o4_1 : zop 4 1 = some (.getfield 3, 3) := by decide +kernel
theorem o4_4 : zop 4 4 = some (.iconst (-1), 1) := by decide +kernel
theorem o4_5 : zop 4 5 = some (.if_icmp .eq 12, 3) := by decide +kernel
theorem o4_8 : zop 4 8 = some (.aload_n 0, 1) := by decide +kernel
theorem o4_9 : zop 4 9 = some (.aload_n 1, 1) := by decide +kernel
theorem o4_10 : zop 4 10 = some (.aload_n 2, 1) := by decide +kernel
theorem o4_11 : zop 4 11 = some (.invokevirtual 5, 3) := by decide +kernel
theorem o4_14 : zop 4 14 = some (.goto 24, 3) := by decide +kernel
theorem o4_17 : zop 4 17 = some (.aload_n 2, 1) := by decide +kernel
theorem o4_18 : zop 4 18 = some (.invokevirtual 10, 3) := by decide +kernel
theorem o4_21 : zop 4 21 = some (.ifCond .eq 17, 3) := by decide +kernel
theorem o4_24 : zop 4 24 = some (.aload_n 0, 1) := by decide +kernel
theorem o4_25 : zop 4 25 = some (.dup, 1) := by decide +kernel
theorem o4_26 : zop 4 26 = some (.getfield 6, 3) := by decide +kernel
theorem o4_29 : zop 4 29 = some (.iconst 1, 1) := by decide +kernel
theorem o4_30 : zop 4 30 = some (.iadd, 1) := by decide +kernel
theorem o4_31 : zop 4 31 = some (.putfield 6, 3) := by decide +kernel
theorem o4_34 : zop 4 34 = some (.aload_n 0, 1) := by decide +kernel
theorem o4_35 : zop 4 35 = some (.invokevirtual 6, 3) := by decide +kernel
theorem o4_38 : zop 4 38 = some (.return_, 1) := by decide +kernel
theorem o5_0 : zop 5 0 = some (.aload_n 2, 1) := by decide +kernel
theorem o5_1 : zop 5 1 = some (.getfield 100, 3) := by decide +kernel
theorem o5_4 : zop 5 4 = some (.aload_n 1, 1) := by decide +kernel
theorem o5_5 : zop 5 5 = some (.aload_n 0, 1) := by decide +kernel
theorem o5_6 : zop 5 6 = some (.getfield 3, 3) := by decide +kernel
theorem o5_9 : zop 5 9 = some (.invokevirtual 19, 3) := by decide +kernel
theorem o5_12 : zop 5 12 = some (.ifCond .le 4, 3) := by decide +kernel
theorem o5_15 : zop 5 15 = some (.return_, 1) := by decide +kernel
theorem o5_16 : zop 5 16 = some (.aload_n 2, 1) := by decide +kernel
theorem o5_17 : zop 5 17 = some (.getfield 100, 3) := by decide +kernel
theorem o5_20 : zop 5 20 = some (.aload_n 1, 1) := by decide +kernel
theorem o5_21 : zop 5 21 = some (.invokevirtual 20, 3) := by decide +kernel
theorem o5_24 : zop 5 24 = some (.istore_n 3, 1) := by decide +kernel
theorem o5_25 : zop 5 25 = some (.iconst 0, 1) := by decide +kernel
theorem o5_26 : zop 5 26 = some (.istore 4, 2) := by decide +kernel
theorem o5_28 : zop 5 28 = some (.iconst 0, 1) := by decide +kernel
theorem o5_29 : zop 5 29 = some (.istore 5, 2) := by decide +kernel
theorem o5_31 : zop 5 31 = some (.iload 5, 2) := by decide +kernel
theorem o5_33 : zop 5 33 = some (.aload_n 2, 1) := by decide +kernel
theorem o5_34 : zop 5 34 = some (.getfield 109, 3) := by decide +kernel
theorem o5_37 : zop 5 37 = some (.if_icmp .ge 21, 3) := by decide +kernel
theorem o5_40 : zop 5 40 = some (.iload 4, 2) := by decide +kernel
theorem o5_42 : zop 5 42 = some (.aload_n 0, 1) := by decide +kernel
theorem o5_43 : zop 5 43 = some (.getfield 1, 3) := by decide +kernel
theorem o5_46 : zop 5 46 = some (.iload 5, 2) := by decide +kernel
theorem o5_48 : zop 5 48 = some (.iaload, 1) := by decide +kernel
theorem o5_49 : zop 5 49 = some (.iadd, 1) := by decide +kernel
theorem o5_50 : zop 5 50 = some (.istore 4, 2) := by decide +kernel
theorem o5_52 : zop 5 52 = some (.iinc 5 1, 3) := by decide +kernel
theorem o5_55 : zop 5 55 = some (.goto (-24), 3) := by decide +kernel
theorem o5_58 : zop 5 58 = some (.aload_n 0, 1) := by decide +kernel
theorem o5_59 : zop 5 59 = some (.getfield 4, 3) := by decide +kernel
theorem o5_62 : zop 5 62 = some (.iconst (-1), 1) := by decide +kernel
theorem o5_63 : zop 5 63 = some (.if_icmp .eq 28, 3) := by decide +kernel
theorem o5_66 : zop 5 66 = some (.iload_n 3, 1) := by decide +kernel
theorem o5_67 : zop 5 67 = some (.aload_n 0, 1) := by decide +kernel
theorem o5_68 : zop 5 68 = some (.getfield 4, 3) := by decide +kernel
theorem o5_71 : zop 5 71 = some (.if_icmp .lt 20, 3) := by decide +kernel
theorem o5_74 : zop 5 74 = some (.iload_n 3, 1) := by decide +kernel
theorem o5_75 : zop 5 75 = some (.aload_n 0, 1) := by decide +kernel
theorem o5_76 : zop 5 76 = some (.getfield 4, 3) := by decide +kernel
theorem o5_79 : zop 5 79 = some (.if_icmp .ne 27, 3) := by decide +kernel
theorem o5_82 : zop 5 82 = some (.iload 4, 2) := by decide +kernel
theorem o5_84 : zop 5 84 = some (.aload_n 0, 1) := by decide +kernel
theorem o5_85 : zop 5 85 = some (.getfield 5, 3) := by decide +kernel
theorem o5_88 : zop 5 88 = some (.if_icmp .lt 18, 3) := by decide +kernel
theorem o5_91 : zop 5 91 = some (.aload_n 0, 1) := by decide +kernel
theorem o5_92 : zop 5 92 = some (.iload_n 3, 1) := by decide +kernel
theorem o5_93 : zop 5 93 = some (.putfield 4, 3) := by decide +kernel
theorem o5_96 : zop 5 96 = some (.aload_n 0, 1) := by decide +kernel
theorem o5_97 : zop 5 97 = some (.iload 4, 2) := by decide +kernel
theorem o5_99 : zop 5 99 = some (.putfield 5, 3) := by decide +kernel
theorem o5_102 : zop 5 102 = some (.aload_n 0, 1) := by decide +kernel
theorem o5_103 : zop 5 103 = some (.invokevirtual 6, 3) := by decide +kernel
theorem o5_106 : zop 5 106 = some (.return_, 1) := by decide +kernel
theorem o6_0 : zop 6 0 = some (.aload_n 0, 1) := by decide +kernel
theorem o6_1 : zop 6 1 = some (.getfield 1, 3) := by decide +kernel
theorem o6_4 : zop 6 4 = some (.iconst 0, 1) := by decide +kernel
theorem o6_5 : zop 6 5 = some (.aload_n 0, 1) := by decide +kernel
theorem o6_6 : zop 6 6 = some (.getfield 0, 3) := by decide +kernel
theorem o6_9 : zop 6 9 = some (.iconst 0, 1) := by decide +kernel
theorem o6_10 : zop 6 10 = some (.iconst 4, 1) := by decide +kernel
theorem o6_11 : zop 6 11 = some (.invokestatic 1003, 3) := by decide +kernel
theorem o6_14 : zop 6 14 = some (.return_, 1) := by decide +kernel
theorem o7_0 : zop 7 0 = some (.aload_n 0, 1) := by decide +kernel
theorem o7_1 : zop 7 1 = some (.iload_n 3, 1) := by decide +kernel
theorem o7_2 : zop 7 2 = some (.putfield 3, 3) := by decide +kernel
theorem o7_5 : zop 7 5 = some (.aload_n 0, 1) := by decide +kernel
theorem o7_6 : zop 7 6 = some (.iconst (-1), 1) := by decide +kernel
theorem o7_7 : zop 7 7 = some (.putfield 4, 3) := by decide +kernel
theorem o7_10 : zop 7 10 = some (.aload_n 0, 1) := by decide +kernel
theorem o7_11 : zop 7 11 = some (.aload_n 2, 1) := by decide +kernel
theorem o7_12 : zop 7 12 = some (.invokevirtual 2, 3) := by decide +kernel
theorem o7_15 : zop 7 15 = some (.aload_n 0, 1) := by decide +kernel
theorem o7_16 : zop 7 16 = some (.aload_n 1, 1) := by decide +kernel
theorem o7_17 : zop 7 17 = some (.aload_n 2, 1) := by decide +kernel
theorem o7_18 : zop 7 18 = some (.iconst 0, 1) := by decide +kernel
theorem o7_19 : zop 7 19 = some (.invokevirtual 3, 3) := by decide +kernel
theorem o7_22 : zop 7 22 = some (.aload_n 0, 1) := by decide +kernel
theorem o7_23 : zop 7 23 = some (.getfield 4, 3) := by decide +kernel
theorem o7_26 : zop 7 26 = some (.ireturn, 1) := by decide +kernel
theorem o8_0 : zop 8 0 = some (.aload_n 0, 1) := by decide +kernel
theorem o8_1 : zop 8 1 = some (.invokespecial 1000, 3) := by decide +kernel
theorem o8_4 : zop 8 4 = some (.aload_n 0, 1) := by decide +kernel
theorem o8_5 : zop 8 5 = some (.new 2, 3) := by decide +kernel
theorem o8_8 : zop 8 8 = some (.dup, 1) := by decide +kernel
theorem o8_9 : zop 8 9 = some (.invokespecial 2016, 3) := by decide +kernel
theorem o8_12 : zop 8 12 = some (.putfield 100, 3) := by decide +kernel
theorem o8_15 : zop 8 15 = some (.aload_n 0, 1) := by decide +kernel
theorem o8_16 : zop 8 16 = some (.new 6, 3) := by decide +kernel
theorem o8_19 : zop 8 19 = some (.dup, 1) := by decide +kernel
theorem o8_20 : zop 8 20 = some (.invokespecial 2053, 3) := by decide +kernel
theorem o8_23 : zop 8 23 = some (.putfield 101, 3) := by decide +kernel
theorem o8_26 : zop 8 26 = some (.aload_n 0, 1) := by decide +kernel
theorem o8_27 : zop 8 27 = some (.iconst 5, 1) := by decide +kernel
theorem o8_28 : zop 8 28 = some (.newarray .int, 2) := by decide +kernel
theorem o8_30 : zop 8 30 = some (.putfield 102, 3) := by decide +kernel
theorem o8_33 : zop 8 33 = some (.aload_n 0, 1) := by decide +kernel
theorem o8_34 : zop 8 34 = some (.iconst 4, 1) := by decide +kernel
theorem o8_35 : zop 8 35 = some (.newarray .int, 2) := by decide +kernel
theorem o8_37 : zop 8 37 = some (.putfield 103, 3) := by decide +kernel
theorem o8_40 : zop 8 40 = some (.aload_n 0, 1) := by decide +kernel
theorem o8_41 : zop 8 41 = some (.iconst 4, 1) := by decide +kernel
theorem o8_42 : zop 8 42 = some (.newarray .int, 2) := by decide +kernel
theorem o8_44 : zop 8 44 = some (.putfield 104, 3) := by decide +kernel
theorem o8_47 : zop 8 47 = some (.aload_n 0, 1) := by decide +kernel
theorem o8_48 : zop 8 48 = some (.bipush 10, 2) := by decide +kernel
theorem o8_50 : zop 8 50 = some (.newarray .int, 2) := by decide +kernel
theorem o8_52 : zop 8 52 = some (.putfield 105, 3) := by decide +kernel
theorem o8_55 : zop 8 55 = some (.aload_n 0, 1) := by decide +kernel
theorem o8_56 : zop 8 56 = some (.bipush 10, 2) := by decide +kernel
theorem o8_58 : zop 8 58 = some (.newarray .int, 2) := by decide +kernel
theorem o8_60 : zop 8 60 = some (.putfield 106, 3) := by decide +kernel
theorem o8_63 : zop 8 63 = some (.aload_n 0, 1) := by decide +kernel
theorem o8_64 : zop 8 64 = some (.bipush 10, 2) := by decide +kernel
theorem o8_66 : zop 8 66 = some (.newarray .int, 2) := by decide +kernel
theorem o8_68 : zop 8 68 = some (.putfield 107, 3) := by decide +kernel
theorem o8_71 : zop 8 71 = some (.aload_n 0, 1) := by decide +kernel
theorem o8_72 : zop 8 72 = some (.iconst 3, 1) := by decide +kernel
theorem o8_73 : zop 8 73 = some (.newarray .int, 2) := by decide +kernel
theorem o8_75 : zop 8 75 = some (.putfield 108, 3) := by decide +kernel
theorem o8_78 : zop 8 78 = some (.aload_n 0, 1) := by decide +kernel
theorem o8_79 : zop 8 79 = some (.iconst 0, 1) := by decide +kernel
theorem o8_80 : zop 8 80 = some (.putfield 109, 3) := by decide +kernel
theorem o8_83 : zop 8 83 = some (.aload_n 0, 1) := by decide +kernel
theorem o8_84 : zop 8 84 = some (.iconst 0, 1) := by decide +kernel
theorem o8_85 : zop 8 85 = some (.putfield 110, 3) := by decide +kernel
theorem o8_88 : zop 8 88 = some (.aload_n 0, 1) := by decide +kernel
theorem o8_89 : zop 8 89 = some (.new 5, 3) := by decide +kernel
theorem o8_92 : zop 8 92 = some (.dup, 1) := by decide +kernel
theorem o8_93 : zop 8 93 = some (.invokespecial 2049, 3) := by decide +kernel
theorem o8_96 : zop 8 96 = some (.putfield 111, 3) := by decide +kernel
theorem o8_99 : zop 8 99 = some (.return_, 1) := by decide +kernel
theorem o9_0 : zop 9 0 = some (.aload_n 0, 1) := by decide +kernel
theorem o9_1 : zop 9 1 = some (.getfield 101, 3) := by decide +kernel
theorem o9_4 : zop 9 4 = some (.aload_n 0, 1) := by decide +kernel
theorem o9_5 : zop 9 5 = some (.getfield 111, 3) := by decide +kernel
theorem o9_8 : zop 9 8 = some (.invokevirtual 54, 3) := by decide +kernel
theorem o9_11 : zop 9 11 = some (.aload_n 0, 1) := by decide +kernel
theorem o9_12 : zop 9 12 = some (.getfield 111, 3) := by decide +kernel
theorem o9_15 : zop 9 15 = some (.aload_n 1, 1) := by decide +kernel
theorem o9_16 : zop 9 16 = some (.aload_n 0, 1) := by decide +kernel
theorem o9_17 : zop 9 17 = some (.getfield 100, 3) := by decide +kernel
theorem o9_20 : zop 9 20 = some (.invokevirtual 51, 3) := by decide +kernel
theorem o9_23 : zop 9 23 = some (.aload_n 0, 1) := by decide +kernel
theorem o9_24 : zop 9 24 = some (.getfield 102, 3) := by decide +kernel
theorem o9_27 : zop 9 27 = some (.aload_n 0, 1) := by decide +kernel
theorem o9_28 : zop 9 28 = some (.getfield 111, 3) := by decide +kernel
theorem o9_31 : zop 9 31 = some (.getfield 500, 3) := by decide +kernel
theorem o9_34 : zop 9 34 = some (.aload_n 0, 1) := by decide +kernel
theorem o9_35 : zop 9 35 = some (.getfield 111, 3) := by decide +kernel
theorem o9_38 : zop 9 38 = some (.getfield 501, 3) := by decide +kernel
theorem o9_41 : zop 9 41 = some (.iastore, 1) := by decide +kernel
theorem o9_42 : zop 9 42 = some (.return_, 1) := by decide +kernel
theorem o10_0 : zop 10 0 = some (.iconst 0, 1) := by decide +kernel
theorem o10_1 : zop 10 1 = some (.istore_n 1, 1) := by decide +kernel
theorem o10_2 : zop 10 2 = some (.iload_n 1, 1) := by decide +kernel
theorem o10_3 : zop 10 3 = some (.aload_n 0, 1) := by decide +kernel
theorem o10_4 : zop 10 4 = some (.getfield 110, 3) := by decide +kernel
theorem o10_7 : zop 10 7 = some (.if_icmp .ge 39, 3) := by decide +kernel
theorem o10_10 : zop 10 10 = some (.aload_n 0, 1) := by decide +kernel
theorem o10_11 : zop 10 11 = some (.getfield 100, 3) := by decide +kernel
theorem o10_14 : zop 10 14 = some (.aload_n 0, 1) := by decide +kernel
theorem o10_15 : zop 10 15 = some (.getfield 105, 3) := by decide +kernel
theorem o10_18 : zop 10 18 = some (.iload_n 1, 1) := by decide +kernel
theorem o10_19 : zop 10 19 = some (.iaload, 1) := by decide +kernel
theorem o10_20 : zop 10 20 = some (.aload_n 0, 1) := by decide +kernel
theorem o10_21 : zop 10 21 = some (.getfield 106, 3) := by decide +kernel
theorem o10_24 : zop 10 24 = some (.iload_n 1, 1) := by decide +kernel
theorem o10_25 : zop 10 25 = some (.iaload, 1) := by decide +kernel
theorem o10_26 : zop 10 26 = some (.invokevirtual 21, 3) := by decide +kernel
theorem o10_29 : zop 10 29 = some (.aload_n 0, 1) := by decide +kernel
theorem o10_30 : zop 10 30 = some (.getfield 107, 3) := by decide +kernel
theorem o10_33 : zop 10 33 = some (.iload_n 1, 1) := by decide +kernel
theorem o10_34 : zop 10 34 = some (.iaload, 1) := by decide +kernel
theorem o10_35 : zop 10 35 = some (.if_icmp .eq 5, 3) := by decide +kernel
theorem o10_38 : zop 10 38 = some (.iconst 0, 1) := by decide +kernel
theorem o10_39 : zop 10 39 = some (.ireturn, 1) := by decide +kernel
theorem o10_40 : zop 10 40 = some (.iinc 1 1, 3) := by decide +kernel
theorem o10_43 : zop 10 43 = some (.goto (-41), 3) := by decide +kernel
theorem o10_46 : zop 10 46 = some (.iconst 1, 1) := by decide +kernel
theorem o10_47 : zop 10 47 = some (.ireturn, 1) := by decide +kernel
theorem o11_0 : zop 11 0 = some (.aload_n 0, 1) := by decide +kernel
theorem o11_1 : zop 11 1 = some (.getfield 100, 3) := by decide +kernel
theorem o11_4 : zop 11 4 = some (.aload_n 1, 1) := by decide +kernel
theorem o11_5 : zop 11 5 = some (.getfield 100, 3) := by decide +kernel
theorem o11_8 : zop 11 8 = some (.invokevirtual 26, 3) := by decide +kernel
theorem o11_11 : zop 11 11 = some (.aload_n 0, 1) := by decide +kernel
theorem o11_12 : zop 11 12 = some (.getfield 101, 3) := by decide +kernel
theorem o11_15 : zop 11 15 = some (.aload_n 1, 1) := by decide +kernel
theorem o11_16 : zop 11 16 = some (.getfield 101, 3) := by decide +kernel
theorem o11_19 : zop 11 19 = some (.invokevirtual 56, 3) := by decide +kernel
theorem o11_22 : zop 11 22 = some (.aload_n 1, 1) := by decide +kernel
theorem o11_23 : zop 11 23 = some (.getfield 102, 3) := by decide +kernel
theorem o11_26 : zop 11 26 = some (.iconst 0, 1) := by decide +kernel
theorem o11_27 : zop 11 27 = some (.aload_n 0, 1) := by decide +kernel
theorem o11_28 : zop 11 28 = some (.getfield 102, 3) := by decide +kernel
theorem o11_31 : zop 11 31 = some (.iconst 0, 1) := by decide +kernel
theorem o11_32 : zop 11 32 = some (.iconst 5, 1) := by decide +kernel
theorem o11_33 : zop 11 33 = some (.invokestatic 1003, 3) := by decide +kernel
theorem o11_36 : zop 11 36 = some (.aload_n 1, 1) := by decide +kernel
theorem o11_37 : zop 11 37 = some (.getfield 103, 3) := by decide +kernel
theorem o11_40 : zop 11 40 = some (.iconst 0, 1) := by decide +kernel
theorem o11_41 : zop 11 41 = some (.aload_n 0, 1) := by decide +kernel
theorem o11_42 : zop 11 42 = some (.getfield 103, 3) := by decide +kernel
theorem o11_45 : zop 11 45 = some (.iconst 0, 1) := by decide +kernel
theorem o11_46 : zop 11 46 = some (.iconst 4, 1) := by decide +kernel
theorem o11_47 : zop 11 47 = some (.invokestatic 1003, 3) := by decide +kernel
theorem o11_50 : zop 11 50 = some (.aload_n 1, 1) := by decide +kernel
theorem o11_51 : zop 11 51 = some (.getfield 104, 3) := by decide +kernel
theorem o11_54 : zop 11 54 = some (.iconst 0, 1) := by decide +kernel
theorem o11_55 : zop 11 55 = some (.aload_n 0, 1) := by decide +kernel
theorem o11_56 : zop 11 56 = some (.getfield 104, 3) := by decide +kernel
theorem o11_59 : zop 11 59 = some (.iconst 0, 1) := by decide +kernel
theorem o11_60 : zop 11 60 = some (.iconst 4, 1) := by decide +kernel
theorem o11_61 : zop 11 61 = some (.invokestatic 1003, 3) := by decide +kernel
theorem o11_64 : zop 11 64 = some (.aload_n 1, 1) := by decide +kernel
theorem o11_65 : zop 11 65 = some (.getfield 105, 3) := by decide +kernel
theorem o11_68 : zop 11 68 = some (.iconst 0, 1) := by decide +kernel
theorem o11_69 : zop 11 69 = some (.aload_n 0, 1) := by decide +kernel
theorem o11_70 : zop 11 70 = some (.getfield 105, 3) := by decide +kernel
theorem o11_73 : zop 11 73 = some (.iconst 0, 1) := by decide +kernel
theorem o11_74 : zop 11 74 = some (.bipush 10, 2) := by decide +kernel
theorem o11_76 : zop 11 76 = some (.invokestatic 1003, 3) := by decide +kernel
theorem o11_79 : zop 11 79 = some (.aload_n 1, 1) := by decide +kernel
theorem o11_80 : zop 11 80 = some (.getfield 106, 3) := by decide +kernel
theorem o11_83 : zop 11 83 = some (.iconst 0, 1) := by decide +kernel
theorem o11_84 : zop 11 84 = some (.aload_n 0, 1) := by decide +kernel
theorem o11_85 : zop 11 85 = some (.getfield 106, 3) := by decide +kernel
theorem o11_88 : zop 11 88 = some (.iconst 0, 1) := by decide +kernel
theorem o11_89 : zop 11 89 = some (.bipush 10, 2) := by decide +kernel
theorem o11_91 : zop 11 91 = some (.invokestatic 1003, 3) := by decide +kernel
theorem o11_94 : zop 11 94 = some (.aload_n 1, 1) := by decide +kernel
theorem o11_95 : zop 11 95 = some (.getfield 107, 3) := by decide +kernel
theorem o11_98 : zop 11 98 = some (.iconst 0, 1) := by decide +kernel
theorem o11_99 : zop 11 99 = some (.aload_n 0, 1) := by decide +kernel
theorem o11_100 : zop 11 100 = some (.getfield 107, 3) := by decide +kernel
theorem o11_103 : zop 11 103 = some (.iconst 0, 1) := by decide +kernel
theorem o11_104 : zop 11 104 = some (.bipush 10, 2) := by decide +kernel
theorem o11_106 : zop 11 106 = some (.invokestatic 1003, 3) := by decide +kernel
theorem o11_109 : zop 11 109 = some (.aload_n 1, 1) := by decide +kernel
theorem o11_110 : zop 11 110 = some (.getfield 108, 3) := by decide +kernel
theorem o11_113 : zop 11 113 = some (.iconst 0, 1) := by decide +kernel
theorem o11_114 : zop 11 114 = some (.aload_n 0, 1) := by decide +kernel
theorem o11_115 : zop 11 115 = some (.getfield 108, 3) := by decide +kernel
theorem o11_118 : zop 11 118 = some (.iconst 0, 1) := by decide +kernel
theorem o11_119 : zop 11 119 = some (.iconst 3, 1) := by decide +kernel
theorem o11_120 : zop 11 120 = some (.invokestatic 1003, 3) := by decide +kernel
theorem o11_123 : zop 11 123 = some (.aload_n 0, 1) := by decide +kernel
theorem o11_124 : zop 11 124 = some (.aload_n 1, 1) := by decide +kernel
theorem o11_125 : zop 11 125 = some (.getfield 109, 3) := by decide +kernel
theorem o11_128 : zop 11 128 = some (.putfield 109, 3) := by decide +kernel
theorem o11_131 : zop 11 131 = some (.aload_n 0, 1) := by decide +kernel
theorem o11_132 : zop 11 132 = some (.aload_n 1, 1) := by decide +kernel
theorem o11_133 : zop 11 133 = some (.getfield 110, 3) := by decide +kernel
theorem o11_136 : zop 11 136 = some (.putfield 110, 3) := by decide +kernel
theorem o11_139 : zop 11 139 = some (.return_, 1) := by decide +kernel
theorem o12_0 : zop 12 0 = some (.aload_n 0, 1) := by decide +kernel
theorem o12_1 : zop 12 1 = some (.getfield 100, 3) := by decide +kernel
theorem o12_4 : zop 12 4 = some (.aload_n 1, 1) := by decide +kernel
theorem o12_5 : zop 12 5 = some (.invokevirtual 27, 3) := by decide +kernel
theorem o12_8 : zop 12 8 = some (.aload_n 0, 1) := by decide +kernel
theorem o12_9 : zop 12 9 = some (.getfield 101, 3) := by decide +kernel
theorem o12_12 : zop 12 12 = some (.invokevirtual 57, 3) := by decide +kernel
theorem o12_15 : zop 12 15 = some (.aload_n 1, 1) := by decide +kernel
theorem o12_16 : zop 12 16 = some (.getfield 706, 3) := by decide +kernel
theorem o12_19 : zop 12 19 = some (.iconst 0, 1) := by decide +kernel
theorem o12_20 : zop 12 20 = some (.aload_n 0, 1) := by decide +kernel
theorem o12_21 : zop 12 21 = some (.getfield 102, 3) := by decide +kernel
theorem o12_24 : zop 12 24 = some (.iconst 0, 1) := by decide +kernel
theorem o12_25 : zop 12 25 = some (.iconst 5, 1) := by decide +kernel
theorem o12_26 : zop 12 26 = some (.invokestatic 1003, 3) := by decide +kernel
theorem o12_29 : zop 12 29 = some (.aload_n 0, 1) := by decide +kernel
theorem o12_30 : zop 12 30 = some (.iconst 0, 1) := by decide +kernel
theorem o12_31 : zop 12 31 = some (.putfield 109, 3) := by decide +kernel
theorem o12_34 : zop 12 34 = some (.aload_n 0, 1) := by decide +kernel
theorem o12_35 : zop 12 35 = some (.iconst 0, 1) := by decide +kernel
theorem o12_36 : zop 12 36 = some (.putfield 110, 3) := by decide +kernel
theorem o12_39 : zop 12 39 = some (.return_, 1) := by decide +kernel
theorem o13_0 : zop 13 0 = some (.aload_n 0, 1) := by decide +kernel
theorem o13_1 : zop 13 1 = some (.getfield 111, 3) := by decide +kernel
theorem o13_4 : zop 13 4 = some (.iload_n 2, 1) := by decide +kernel
theorem o13_5 : zop 13 5 = some (.aload_n 0, 1) := by decide +kernel
theorem o13_6 : zop 13 6 = some (.getfield 102, 3) := by decide +kernel
theorem o13_9 : zop 13 9 = some (.iload_n 2, 1) := by decide +kernel
theorem o13_10 : zop 13 10 = some (.iaload, 1) := by decide +kernel
theorem o13_11 : zop 13 11 = some (.iload_n 3, 1) := by decide +kernel
theorem o13_12 : zop 13 12 = some (.invokevirtual 50, 3) := by decide +kernel
theorem o13_15 : zop 13 15 = some (.aload_n 0, 1) := by decide +kernel
theorem o13_16 : zop 13 16 = some (.getfield 111, 3) := by decide +kernel
theorem o13_19 : zop 13 19 = some (.aload_n 1, 1) := by decide +kernel
theorem o13_20 : zop 13 20 = some (.aload_n 0, 1) := by decide +kernel
theorem o13_21 : zop 13 21 = some (.getfield 100, 3) := by decide +kernel
theorem o13_24 : zop 13 24 = some (.aload_n 1, 1) := by decide +kernel
theorem o13_25 : zop 13 25 = some (.iload_n 2, 1) := by decide +kernel
theorem o13_26 : zop 13 26 = some (.iload 4, 2) := by decide +kernel
theorem o13_28 : zop 13 28 = some (.invokevirtual 71, 3) := by decide +kernel
theorem o13_31 : zop 13 31 = some (.invokevirtual 52, 3) := by decide +kernel
theorem o13_34 : zop 13 34 = some (.aload_n 0, 1) := by decide +kernel
theorem o13_35 : zop 13 35 = some (.getfield 101, 3) := by decide +kernel
theorem o13_38 : zop 13 38 = some (.aload_n 1, 1) := by decide +kernel
theorem o13_39 : zop 13 39 = some (.aload_n 0, 1) := by decide +kernel
theorem o13_40 : zop 13 40 = some (.getfield 100, 3) := by decide +kernel
theorem o13_43 : zop 13 43 = some (.aload_n 0, 1) := by decide +kernel
theorem o13_44 : zop 13 44 = some (.getfield 111, 3) := by decide +kernel
theorem o13_47 : zop 13 47 = some (.iload 4, 2) := by decide +kernel
theorem o13_49 : zop 13 49 = some (.invokevirtual 64, 3) := by decide +kernel
theorem o13_52 : zop 13 52 = some (.aload_n 0, 1) := by decide +kernel
theorem o13_53 : zop 13 53 = some (.getfield 102, 3) := by decide +kernel
theorem o13_56 : zop 13 56 = some (.iload_n 2, 1) := by decide +kernel
theorem o13_57 : zop 13 57 = some (.iload_n 3, 1) := by decide +kernel
theorem o13_58 : zop 13 58 = some (.iastore, 1) := by decide +kernel
theorem o13_59 : zop 13 59 = some (.aload_n 0, 1) := by decide +kernel
theorem o13_60 : zop 13 60 = some (.getfield 111, 3) := by decide +kernel
theorem o13_63 : zop 13 63 = some (.getfield 503, 3) := by decide +kernel
theorem o13_66 : zop 13 66 = some (.ireturn, 1) := by decide +kernel
theorem o14_0 : zop 14 0 = some (.aload_n 0, 1) := by decide +kernel
theorem o14_1 : zop 14 1 = some (.getfield 109, 3) := by decide +kernel
theorem o14_4 : zop 14 4 = some (.iconst 4, 1) := by decide +kernel
theorem o14_5 : zop 14 5 = some (.if_icmp .ge 33, 3) := by decide +kernel
theorem o14_8 : zop 14 8 = some (.aload_n 0, 1) := by decide +kernel
theorem o14_9 : zop 14 9 = some (.getfield 103, 3) := by decide +kernel
theorem o14_12 : zop 14 12 = some (.aload_n 0, 1) := by decide +kernel
theorem o14_13 : zop 14 13 = some (.getfield 109, 3) := by decide +kernel
theorem o14_16 : zop 14 16 = some (.iload_n 1, 1) := by decide +kernel
theorem o14_17 : zop 14 17 = some (.iastore, 1) := by decide +kernel
theorem o14_18 : zop 14 18 = some (.aload_n 0, 1) := by decide +kernel
theorem o14_19 : zop 14 19 = some (.getfield 104, 3) := by decide +kernel
theorem o14_22 : zop 14 22 = some (.aload_n 0, 1) := by decide +kernel
theorem o14_23 : zop 14 23 = some (.getfield 109, 3) := by decide +kernel
theorem o14_26 : zop 14 26 = some (.iload_n 2, 1) := by decide +kernel
theorem o14_27 : zop 14 27 = some (.iastore, 1) := by decide +kernel
theorem o14_28 : zop 14 28 = some (.aload_n 0, 1) := by decide +kernel
theorem o14_29 : zop 14 29 = some (.dup, 1) := by decide +kernel
theorem o14_30 : zop 14 30 = some (.getfield 109, 3) := by decide +kernel
theorem o14_33 : zop 14 33 = some (.iconst 1, 1) := by decide +kernel
theorem o14_34 : zop 14 34 = some (.iadd, 1) := by decide +kernel
theorem o14_35 : zop 14 35 = some (.putfield 109, 3) := by decide +kernel
theorem o14_38 : zop 14 38 = some (.return_, 1) := by decide +kernel
theorem o15_0 : zop 15 0 = some (.aload_n 0, 1) := by decide +kernel
theorem o15_1 : zop 15 1 = some (.getfield 110, 3) := by decide +kernel
theorem o15_4 : zop 15 4 = some (.bipush 10, 2) := by decide +kernel
theorem o15_6 : zop 15 6 = some (.if_icmp .ge 43, 3) := by decide +kernel
theorem o15_9 : zop 15 9 = some (.aload_n 0, 1) := by decide +kernel
theorem o15_10 : zop 15 10 = some (.getfield 105, 3) := by decide +kernel
theorem o15_13 : zop 15 13 = some (.aload_n 0, 1) := by decide +kernel
theorem o15_14 : zop 15 14 = some (.getfield 110, 3) := by decide +kernel
theorem o15_17 : zop 15 17 = some (.iload_n 1, 1) := by decide +kernel
theorem o15_18 : zop 15 18 = some (.iastore, 1) := by decide +kernel
theorem o15_19 : zop 15 19 = some (.aload_n 0, 1) := by decide +kernel
theorem o15_20 : zop 15 20 = some (.getfield 106, 3) := by decide +kernel
theorem o15_23 : zop 15 23 = some (.aload_n 0, 1) := by decide +kernel
theorem o15_24 : zop 15 24 = some (.getfield 110, 3) := by decide +kernel
theorem o15_27 : zop 15 27 = some (.iload_n 2, 1) := by decide +kernel
theorem o15_28 : zop 15 28 = some (.iastore, 1) := by decide +kernel
theorem o15_29 : zop 15 29 = some (.aload_n 0, 1) := by decide +kernel
theorem o15_30 : zop 15 30 = some (.getfield 107, 3) := by decide +kernel
theorem o15_33 : zop 15 33 = some (.aload_n 0, 1) := by decide +kernel
theorem o15_34 : zop 15 34 = some (.getfield 110, 3) := by decide +kernel
theorem o15_37 : zop 15 37 = some (.iload_n 3, 1) := by decide +kernel
theorem o15_38 : zop 15 38 = some (.iastore, 1) := by decide +kernel
theorem o15_39 : zop 15 39 = some (.aload_n 0, 1) := by decide +kernel
theorem o15_40 : zop 15 40 = some (.dup, 1) := by decide +kernel
theorem o15_41 : zop 15 41 = some (.getfield 110, 3) := by decide +kernel
theorem o15_44 : zop 15 44 = some (.iconst 1, 1) := by decide +kernel
theorem o15_45 : zop 15 45 = some (.iadd, 1) := by decide +kernel
theorem o15_46 : zop 15 46 = some (.putfield 110, 3) := by decide +kernel
theorem o15_49 : zop 15 49 = some (.return_, 1) := by decide +kernel
theorem o16_0 : zop 16 0 = some (.aload_n 0, 1) := by decide +kernel
theorem o16_1 : zop 16 1 = some (.invokespecial 1000, 3) := by decide +kernel
theorem o16_4 : zop 16 4 = some (.aload_n 0, 1) := by decide +kernel
theorem o16_5 : zop 16 5 = some (.bipush 6, 2) := by decide +kernel
theorem o16_7 : zop 16 7 = some (.newarray .int, 2) := by decide +kernel
theorem o16_9 : zop 16 9 = some (.putfield 200, 3) := by decide +kernel
theorem o16_12 : zop 16 12 = some (.aload_n 0, 1) := by decide +kernel
theorem o16_13 : zop 16 13 = some (.sipush 240, 3) := by decide +kernel
theorem o16_16 : zop 16 16 = some (.newarray .int, 2) := by decide +kernel
theorem o16_18 : zop 16 18 = some (.putfield 201, 3) := by decide +kernel
theorem o16_21 : zop 16 21 = some (.aload_n 0, 1) := by decide +kernel
theorem o16_22 : zop 16 22 = some (.bipush 36, 2) := by decide +kernel
theorem o16_24 : zop 16 24 = some (.newarray .int, 2) := by decide +kernel
theorem o16_26 : zop 16 26 = some (.putfield 202, 3) := by decide +kernel
theorem o16_29 : zop 16 29 = some (.return_, 1) := by decide +kernel
theorem o17_0 : zop 17 0 = some (.iload_n 2, 1) := by decide +kernel
theorem o17_1 : zop 17 1 = some (.bipush 40, 2) := by decide +kernel
theorem o17_3 : zop 17 3 = some (.imul, 1) := by decide +kernel
theorem o17_4 : zop 17 4 = some (.istore 4, 2) := by decide +kernel
theorem o17_6 : zop 17 6 = some (.aload_n 0, 1) := by decide +kernel
theorem o17_7 : zop 17 7 = some (.getfield 201, 3) := by decide +kernel
theorem o17_10 : zop 17 10 = some (.iload 4, 2) := by decide +kernel
theorem o17_12 : zop 17 12 = some (.iload_n 3, 1) := by decide +kernel
theorem o17_13 : zop 17 13 = some (.iadd, 1) := by decide +kernel
theorem o17_14 : zop 17 14 = some (.iaload, 1) := by decide +kernel
theorem o17_15 : zop 17 15 = some (.istore 5, 2) := by decide +kernel
theorem o17_17 : zop 17 17 = some (.aload_n 0, 1) := by decide +kernel
theorem o17_18 : zop 17 18 = some (.getfield 200, 3) := by decide +kernel
theorem o17_21 : zop 17 21 = some (.iload_n 2, 1) := by decide +kernel
theorem o17_22 : zop 17 22 = some (.dup2, 1) := by decide +kernel
theorem o17_23 : zop 17 23 = some (.iaload, 1) := by decide +kernel
theorem o17_24 : zop 17 24 = some (.iconst 1, 1) := by decide +kernel
theorem o17_25 : zop 17 25 = some (.isub, 1) := by decide +kernel
theorem o17_26 : zop 17 26 = some (.iastore, 1) := by decide +kernel
theorem o17_27 : zop 17 27 = some (.iload_n 3, 1) := by decide +kernel
theorem o17_28 : zop 17 28 = some (.istore 6, 2) := by decide +kernel
theorem o17_30 : zop 17 30 = some (.iload 6, 2) := by decide +kernel
theorem o17_32 : zop 17 32 = some (.aload_n 0, 1) := by decide +kernel
theorem o17_33 : zop 17 33 = some (.getfield 200, 3) := by decide +kernel
theorem o17_36 : zop 17 36 = some (.iload_n 2, 1) := by decide +kernel
theorem o17_37 : zop 17 37 = some (.iaload, 1) := by decide +kernel
theorem o17_38 : zop 17 38 = some (.if_icmp .ge 31, 3) := by decide +kernel
theorem o17_41 : zop 17 41 = some (.aload_n 0, 1) := by decide +kernel
theorem o17_42 : zop 17 42 = some (.getfield 201, 3) := by decide +kernel
theorem o17_45 : zop 17 45 = some (.iload 4, 2) := by decide +kernel
theorem o17_47 : zop 17 47 = some (.iload 6, 2) := by decide +kernel
theorem o17_49 : zop 17 49 = some (.iadd, 1) := by decide +kernel
theorem o17_50 : zop 17 50 = some (.aload_n 0, 1) := by decide +kernel
theorem o17_51 : zop 17 51 = some (.getfield 201, 3) := by decide +kernel
theorem o17_54 : zop 17 54 = some (.iload 4, 2) := by decide +kernel
theorem o17_56 : zop 17 56 = some (.iload 6, 2) := by decide +kernel
theorem o17_58 : zop 17 58 = some (.iadd, 1) := by decide +kernel
theorem o17_59 : zop 17 59 = some (.iconst 1, 1) := by decide +kernel
theorem o17_60 : zop 17 60 = some (.iadd, 1) := by decide +kernel
theorem o17_61 : zop 17 61 = some (.iaload, 1) := by decide +kernel
theorem o17_62 : zop 17 62 = some (.iastore, 1) := by decide +kernel
theorem o17_63 : zop 17 63 = some (.iinc 6 1, 3) := by decide +kernel
theorem o17_66 : zop 17 66 = some (.goto (-36), 3) := by decide +kernel
theorem o17_69 : zop 17 69 = some (.aload_n 0, 1) := by decide +kernel
theorem o17_70 : zop 17 70 = some (.getfield 202, 3) := by decide +kernel
theorem o17_73 : zop 17 73 = some (.iload_n 2, 1) := by decide +kernel
theorem o17_74 : zop 17 74 = some (.bipush 6, 2) := by decide +kernel
theorem o17_76 : zop 17 76 = some (.imul, 1) := by decide +kernel
theorem o17_77 : zop 17 77 = some (.aload_n 1, 1) := by decide +kernel
theorem o17_78 : zop 17 78 = some (.getfield 702, 3) := by decide +kernel
theorem o17_81 : zop 17 81 = some (.iload 5, 2) := by decide +kernel
theorem o17_83 : zop 17 83 = some (.iaload, 1) := by decide +kernel
theorem o17_84 : zop 17 84 = some (.iadd, 1) := by decide +kernel
theorem o17_85 : zop 17 85 = some (.dup2, 1) := by decide +kernel
theorem o17_86 : zop 17 86 = some (.iaload, 1) := by decide +kernel
theorem o17_87 : zop 17 87 = some (.iconst 1, 1) := by decide +kernel
theorem o17_88 : zop 17 88 = some (.isub, 1) := by decide +kernel
theorem o17_89 : zop 17 89 = some (.iastore, 1) := by decide +kernel
theorem o17_90 : zop 17 90 = some (.iload 5, 2) := by decide +kernel
theorem o17_92 : zop 17 92 = some (.ireturn, 1) := by decide +kernel
theorem o18_0 : zop 18 0 = some (.aload_n 0, 1) := by decide +kernel
theorem o18_1 : zop 18 1 = some (.getfield 200, 3) := by decide +kernel
theorem o18_4 : zop 18 4 = some (.iload_n 2, 1) := by decide +kernel
theorem o18_5 : zop 18 5 = some (.iaload, 1) := by decide +kernel
theorem o18_6 : zop 18 6 = some (.bipush 40, 2) := by decide +kernel
theorem o18_8 : zop 18 8 = some (.if_icmp .ge 17, 3) := by decide +kernel
theorem o18_11 : zop 18 11 = some (.iload_n 3, 1) := by decide +kernel
theorem o18_12 : zop 18 12 = some (.ifCond .lt 13, 3) := by decide +kernel
theorem o18_15 : zop 18 15 = some (.iload_n 3, 1) := by decide +kernel
theorem o18_16 : zop 18 16 = some (.aload_n 0, 1) := by decide +kernel
theorem o18_17 : zop 18 17 = some (.getfield 200, 3) := by decide +kernel
theorem o18_20 : zop 18 20 = some (.iload_n 2, 1) := by decide +kernel
theorem o18_21 : zop 18 21 = some (.iaload, 1) := by decide +kernel
theorem o18_22 : zop 18 22 = some (.if_icmp .le 4, 3) := by decide +kernel
theorem o18_25 : zop 18 25 = some (.return_, 1) := by decide +kernel
theorem o18_26 : zop 18 26 = some (.iload_n 2, 1) := by decide +kernel
theorem o18_27 : zop 18 27 = some (.bipush 40, 2) := by decide +kernel
theorem o18_29 : zop 18 29 = some (.imul, 1) := by decide +kernel
theorem o18_30 : zop 18 30 = some (.istore 5, 2) := by decide +kernel
theorem o18_32 : zop 18 32 = some (.aload_n 0, 1) := by decide +kernel
theorem o18_33 : zop 18 33 = some (.getfield 200, 3) := by decide +kernel
theorem o18_36 : zop 18 36 = some (.iload_n 2, 1) := by decide +kernel
theorem o18_37 : zop 18 37 = some (.iaload, 1) := by decide +kernel
theorem o18_38 : zop 18 38 = some (.istore 6, 2) := by decide +kernel
theorem o18_40 : zop 18 40 = some (.iload 6, 2) := by decide +kernel
theorem o18_42 : zop 18 42 = some (.iload_n 3, 1) := by decide +kernel
theorem o18_43 : zop 18 43 = some (.if_icmp .le 31, 3) := by decide +kernel
theorem o18_46 : zop 18 46 = some (.aload_n 0, 1) := by decide +kernel
theorem o18_47 : zop 18 47 = some (.getfield 201, 3) := by decide +kernel
theorem o18_50 : zop 18 50 = some (.iload 5, 2) := by decide +kernel
theorem o18_52 : zop 18 52 = some (.iload 6, 2) := by decide +kernel
theorem o18_54 : zop 18 54 = some (.iadd, 1) := by decide +kernel
theorem o18_55 : zop 18 55 = some (.aload_n 0, 1) := by decide +kernel
theorem o18_56 : zop 18 56 = some (.getfield 201, 3) := by decide +kernel
theorem o18_59 : zop 18 59 = some (.iload 5, 2) := by decide +kernel
theorem o18_61 : zop 18 61 = some (.iload 6, 2) := by decide +kernel
theorem o18_63 : zop 18 63 = some (.iadd, 1) := by decide +kernel
theorem o18_64 : zop 18 64 = some (.iconst 1, 1) := by decide +kernel
theorem o18_65 : zop 18 65 = some (.isub, 1) := by decide +kernel
theorem o18_66 : zop 18 66 = some (.iaload, 1) := by decide +kernel
theorem o18_67 : zop 18 67 = some (.iastore, 1) := by decide +kernel
theorem o18_68 : zop 18 68 = some (.iinc 6 (-1), 3) := by decide +kernel
theorem o18_71 : zop 18 71 = some (.goto (-31), 3) := by decide +kernel
theorem o18_74 : zop 18 74 = some (.aload_n 0, 1) := by decide +kernel
theorem o18_75 : zop 18 75 = some (.getfield 201, 3) := by decide +kernel
theorem o18_78 : zop 18 78 = some (.iload 5, 2) := by decide +kernel
theorem o18_80 : zop 18 80 = some (.iload_n 3, 1) := by decide +kernel
theorem o18_81 : zop 18 81 = some (.iadd, 1) := by decide +kernel
theorem o18_82 : zop 18 82 = some (.iload 4, 2) := by decide +kernel
theorem o18_84 : zop 18 84 = some (.iastore, 1) := by decide +kernel
theorem o18_85 : zop 18 85 = some (.aload_n 0, 1) := by decide +kernel
theorem o18_86 : zop 18 86 = some (.getfield 200, 3) := by decide +kernel
theorem o18_89 : zop 18 89 = some (.iload_n 2, 1) := by decide +kernel
theorem o18_90 : zop 18 90 = some (.dup2, 1) := by decide +kernel
theorem o18_91 : zop 18 91 = some (.iaload, 1) := by decide +kernel
theorem o18_92 : zop 18 92 = some (.iconst 1, 1) := by decide +kernel
theorem o18_93 : zop 18 93 = some (.iadd, 1) := by decide +kernel
theorem o18_94 : zop 18 94 = some (.iastore, 1) := by decide +kernel
theorem o18_95 : zop 18 95 = some (.aload_n 0, 1) := by decide +kernel
theorem o18_96 : zop 18 96 = some (.getfield 202, 3) := by decide +kernel
theorem o18_99 : zop 18 99 = some (.iload_n 2, 1) := by decide +kernel
theorem o18_100 : zop 18 100 = some (.bipush 6, 2) := by decide +kernel
theorem o18_102 : zop 18 102 = some (.imul, 1) := by decide +kernel
theorem o18_103 : zop 18 103 = some (.aload_n 1, 1) := by decide +kernel
theorem o18_104 : zop 18 104 = some (.getfield 702, 3) := by decide +kernel
theorem o18_107 : zop 18 107 = some (.iload 4, 2) := by decide +kernel
theorem o18_109 : zop 18 109 = some (.iaload, 1) := by decide +kernel
theorem o18_110 : zop 18 110 = some (.iadd, 1) := by decide +kernel
theorem o18_111 : zop 18 111 = some (.dup2, 1) := by decide +kernel
theorem o18_112 : zop 18 112 = some (.iaload, 1) := by decide +kernel
theorem o18_113 : zop 18 113 = some (.iconst 1, 1) := by decide +kernel
theorem o18_114 : zop 18 114 = some (.iadd, 1) := by decide +kernel
theorem o18_115 : zop 18 115 = some (.iastore, 1) := by decide +kernel
theorem o18_116 : zop 18 116 = some (.return_, 1) := by decide +kernel
theorem o19_0 : zop 19 0 = some (.iconst 0, 1) := by decide +kernel
theorem o19_1 : zop 19 1 = some (.aload_n 1, 1) := by decide +kernel
theorem o19_2 : zop 19 2 = some (.getfield 700, 3) := by decide +kernel
theorem o19_5 : zop 19 5 = some (.iload_n 2, 1) := by decide +kernel
theorem o19_6 : zop 19 6 = some (.iaload, 1) := by decide +kernel
theorem o19_7 : zop 19 7 = some (.aload_n 0, 1) := by decide +kernel
theorem o19_8 : zop 19 8 = some (.getfield 200, 3) := by decide +kernel
theorem o19_11 : zop 19 11 = some (.iload_n 2, 1) := by decide +kernel
theorem o19_12 : zop 19 12 = some (.iaload, 1) := by decide +kernel
theorem o19_13 : zop 19 13 = some (.isub, 1) := by decide +kernel
theorem o19_14 : zop 19 14 = some (.invokestatic 1002, 3) := by decide +kernel
theorem o19_17 : zop 19 17 = some (.ireturn, 1) := by decide +kernel
theorem o20_0 : zop 20 0 = some (.iconst 0, 1) := by decide +kernel
theorem o20_1 : zop 20 1 = some (.istore_n 2, 1) := by decide +kernel
theorem o20_2 : zop 20 2 = some (.iconst 0, 1) := by decide +kernel
theorem o20_3 : zop 20 3 = some (.istore_n 3, 1) := by decide +kernel
theorem o20_4 : zop 20 4 = some (.iload_n 3, 1) := by decide +kernel
theorem o20_5 : zop 20 5 = some (.aload_n 1, 1) := by decide +kernel
theorem o20_6 : zop 20 6 = some (.getfield 708, 3) := by decide +kernel
theorem o20_9 : zop 20 9 = some (.if_icmp .ge 18, 3) := by decide +kernel
theorem o20_12 : zop 20 12 = some (.iload_n 2, 1) := by decide +kernel
theorem o20_13 : zop 20 13 = some (.aload_n 0, 1) := by decide +kernel
theorem o20_14 : zop 20 14 = some (.aload_n 1, 1) := by decide +kernel
theorem o20_15 : zop 20 15 = some (.iload_n 3, 1) := by decide +kernel
theorem o20_16 : zop 20 16 = some (.invokevirtual 19, 3) := by decide +kernel
theorem o20_19 : zop 20 19 = some (.iadd, 1) := by decide +kernel
theorem o20_20 : zop 20 20 = some (.istore_n 2, 1) := by decide +kernel
theorem o20_21 : zop 20 21 = some (.iinc 3 1, 3) := by decide +kernel
theorem o20_24 : zop 20 24 = some (.goto (-20), 3) := by decide +kernel
theorem o20_27 : zop 20 27 = some (.iload_n 2, 1) := by decide +kernel
theorem o20_28 : zop 20 28 = some (.ireturn, 1) := by decide +kernel
theorem o21_0 : zop 21 0 = some (.aload_n 0, 1) := by decide +kernel
theorem o21_1 : zop 21 1 = some (.getfield 202, 3) := by decide +kernel
theorem o21_4 : zop 21 4 = some (.iload_n 1, 1) := by decide +kernel
theorem o21_5 : zop 21 5 = some (.bipush 6, 2) := by decide +kernel
theorem o21_7 : zop 21 7 = some (.imul, 1) := by decide +kernel
theorem o21_8 : zop 21 8 = some (.iload_n 2, 1) := by decide +kernel
theorem o21_9 : zop 21 9 = some (.iadd, 1) := by decide +kernel
theorem o21_10 : zop 21 10 = some (.iaload, 1) := by decide +kernel
theorem o21_11 : zop 21 11 = some (.ireturn, 1) := by decide +kernel
theorem o22_0 : zop 22 0 = some (.iconst (-1), 1) := by decide +kernel
theorem o22_1 : zop 22 1 = some (.istore 4, 2) := by decide +kernel
theorem o22_3 : zop 22 3 = some (.aload_n 1, 1) := by decide +kernel
theorem o22_4 : zop 22 4 = some (.getfield 704, 3) := by decide +kernel
theorem o22_7 : zop 22 7 = some (.iload_n 2, 1) := by decide +kernel
theorem o22_8 : zop 22 8 = some (.iaload, 1) := by decide +kernel
theorem o22_9 : zop 22 9 = some (.iconst 1, 1) := by decide +kernel
theorem o22_10 : zop 22 10 = some (.if_icmp .ne 14, 3) := by decide +kernel
theorem o22_13 : zop 22 13 = some (.aload_n 0, 1) := by decide +kernel
theorem o22_14 : zop 22 14 = some (.aload_n 1, 1) := by decide +kernel
theorem o22_15 : zop 22 15 = some (.iload_n 3, 1) := by decide +kernel
theorem o22_16 : zop 22 16 = some (.invokevirtual 23, 3) := by decide +kernel
theorem o22_19 : zop 22 19 = some (.istore 4, 2) := by decide +kernel
theorem o22_21 : zop 22 21 = some (.goto 27, 3) := by decide +kernel
theorem o22_24 : zop 22 24 = some (.aload_n 1, 1) := by decide +kernel
theorem o22_25 : zop 22 25 = some (.getfield 704, 3) := by decide +kernel
theorem o22_28 : zop 22 28 = some (.iload_n 2, 1) := by decide +kernel
theorem o22_29 : zop 22 29 = some (.iaload, 1) := by decide +kernel
theorem o22_30 : zop 22 30 = some (.iconst 2, 1) := by decide +kernel
theorem o22_31 : zop 22 31 = some (.if_icmp .ne 17, 3) := by decide +kernel
theorem o22_34 : zop 22 34 = some (.aload_n 0, 1) := by decide +kernel
theorem o22_35 : zop 22 35 = some (.aload_n 1, 1) := by decide +kernel
theorem o22_36 : zop 22 36 = some (.iload_n 3, 1) := by decide +kernel
theorem o22_37 : zop 22 37 = some (.aload_n 1, 1) := by decide +kernel
theorem o22_38 : zop 22 38 = some (.getfield 706, 3) := by decide +kernel
theorem o22_41 : zop 22 41 = some (.iload_n 2, 1) := by decide +kernel
theorem o22_42 : zop 22 42 = some (.iaload, 1) := by decide +kernel
theorem o22_43 : zop 22 43 = some (.invokevirtual 25, 3) := by decide +kernel
theorem o22_46 : zop 22 46 = some (.istore 4, 2) := by decide +kernel
theorem o22_48 : zop 22 48 = some (.iload 4, 2) := by decide +kernel
theorem o22_50 : zop 22 50 = some (.iconst (-1), 1) := by decide +kernel
theorem o22_51 : zop 22 51 = some (.if_icmp .ne 14, 3) := by decide +kernel
theorem o22_54 : zop 22 54 = some (.aload_n 0, 1) := by decide +kernel
theorem o22_55 : zop 22 55 = some (.getfield 200, 3) := by decide +kernel
theorem o22_58 : zop 22 58 = some (.iload_n 3, 1) := by decide +kernel
theorem o22_59 : zop 22 59 = some (.iaload, 1) := by decide +kernel
theorem o22_60 : zop 22 60 = some (.iconst 1, 1) := by decide +kernel
theorem o22_61 : zop 22 61 = some (.isub, 1) := by decide +kernel
theorem o22_62 : zop 22 62 = some (.goto 5, 3) := by decide +kernel
theorem o22_65 : zop 22 65 = some (.iload 4, 2) := by decide +kernel
theorem o22_67 : zop 22 67 = some (.ireturn, 1) := by decide +kernel
theorem o23_0 : zop 23 0 = some (.iconst (-1), 1) := by decide +kernel
theorem o23_1 : zop 23 1 = some (.istore_n 3, 1) := by decide +kernel
theorem o23_2 : zop 23 2 = some (.iconst (-1), 1) := by decide +kernel
theorem o23_3 : zop 23 3 = some (.istore 4, 2) := by decide +kernel
theorem o23_5 : zop 23 5 = some (.iconst 0, 1) := by decide +kernel
theorem o23_6 : zop 23 6 = some (.istore 5, 2) := by decide +kernel
theorem o23_8 : zop 23 8 = some (.iload 5, 2) := by decide +kernel
theorem o23_10 : zop 23 10 = some (.aload_n 0, 1) := by decide +kernel
theorem o23_11 : zop 23 11 = some (.getfield 200, 3) := by decide +kernel
theorem o23_14 : zop 23 14 = some (.iload_n 2, 1) := by decide +kernel
theorem o23_15 : zop 23 15 = some (.iaload, 1) := by decide +kernel
theorem o23_16 : zop 23 16 = some (.if_icmp .ge 36, 3) := by decide +kernel
theorem o23_19 : zop 23 19 = some (.aload_n 1, 1) := by decide +kernel
theorem o23_20 : zop 23 20 = some (.getfield 703, 3) := by decide +kernel
theorem o23_23 : zop 23 23 = some (.aload_n 0, 1) := by decide +kernel
theorem o23_24 : zop 23 24 = some (.iload_n 2, 1) := by decide +kernel
theorem o23_25 : zop 23 25 = some (.iload 5, 2) := by decide +kernel
theorem o23_27 : zop 23 27 = some (.invokevirtual 24, 3) := by decide +kernel
theorem o23_30 : zop 23 30 = some (.iaload, 1) := by decide +kernel
theorem o23_31 : zop 23 31 = some (.istore 6, 2) := by decide +kernel
theorem o23_33 : zop 23 33 = some (.iload 6, 2) := by decide +kernel
theorem o23_35 : zop 23 35 = some (.iload_n 3, 1) := by decide +kernel
theorem o23_36 : zop 23 36 = some (.if_icmp .lt 10, 3) := by decide +kernel
theorem o23_39 : zop 23 39 = some (.iload 6, 2) := by decide +kernel
theorem o23_41 : zop 23 41 = some (.istore_n 3, 1) := by decide +kernel
theorem o23_42 : zop 23 42 = some (.iload 5, 2) := by decide +kernel
theorem o23_44 : zop 23 44 = some (.istore 4, 2) := by decide +kernel
theorem o23_46 : zop 23 46 = some (.iinc 5 1, 3) := by decide +kernel
theorem o23_49 : zop 23 49 = some (.goto (-41), 3) := by decide +kernel
theorem o23_52 : zop 23 52 = some (.iload 4, 2) := by decide +kernel
theorem o23_54 : zop 23 54 = some (.ireturn, 1) := by decide +kernel
theorem o24_0 : zop 24 0 = some (.aload_n 0, 1) := by decide +kernel
theorem o24_1 : zop 24 1 = some (.getfield 201, 3) := by decide +kernel
theorem o24_4 : zop 24 4 = some (.iload_n 1, 1) := by decide +kernel
theorem o24_5 : zop 24 5 = some (.bipush 40, 2) := by decide +kernel
theorem o24_7 : zop 24 7 = some (.imul, 1) := by decide +kernel
theorem o24_8 : zop 24 8 = some (.iload_n 2, 1) := by decide +kernel
theorem o24_9 : zop 24 9 = some (.iadd, 1) := by decide +kernel
theorem o24_10 : zop 24 10 = some (.iaload, 1) := by decide +kernel
theorem o24_11 : zop 24 11 = some (.ireturn, 1) := by decide +kernel
theorem o25_0 : zop 25 0 = some (.aload_n 0, 1) := by decide +kernel
theorem o25_1 : zop 25 1 = some (.getfield 200, 3) := by decide +kernel
theorem o25_4 : zop 25 4 = some (.iload_n 2, 1) := by decide +kernel
theorem o25_5 : zop 25 5 = some (.iaload, 1) := by decide +kernel
theorem o25_6 : zop 25 6 = some (.iconst 1, 1) := by decide +kernel
theorem o25_7 : zop 25 7 = some (.isub, 1) := by decide +kernel
theorem o25_8 : zop 25 8 = some (.istore 4, 2) := by decide +kernel
theorem o25_10 : zop 25 10 = some (.iload 4, 2) := by decide +kernel
theorem o25_12 : zop 25 12 = some (.ifCond .lt 28, 3) := by decide +kernel
theorem o25_15 : zop 25 15 = some (.aload_n 1, 1) := by decide +kernel
theorem o25_16 : zop 25 16 = some (.getfield 702, 3) := by decide +kernel
theorem o25_19 : zop 25 19 = some (.aload_n 0, 1) := by decide +kernel
theorem o25_20 : zop 25 20 = some (.iload_n 2, 1) := by decide +kernel
theorem o25_21 : zop 25 21 = some (.iload 4, 2) := by decide +kernel
theorem o25_23 : zop 25 23 = some (.invokevirtual 24, 3) := by decide +kernel
theorem o25_26 : zop 25 26 = some (.iaload, 1) := by decide +kernel
theorem o25_27 : zop 25 27 = some (.iload_n 3, 1) := by decide +kernel
theorem o25_28 : zop 25 28 = some (.if_icmp .ne 6, 3) := by decide +kernel
theorem o25_31 : zop 25 31 = some (.iload 4, 2) := by decide +kernel
theorem o25_33 : zop 25 33 = some (.ireturn, 1) := by decide +kernel
theorem o25_34 : zop 25 34 = some (.iinc 4 (-1), 3) := by decide +kernel
theorem o25_37 : zop 25 37 = some (.goto (-27), 3) := by decide +kernel
theorem o25_40 : zop 25 40 = some (.iconst (-1), 1) := by decide +kernel
theorem o25_41 : zop 25 41 = some (.ireturn, 1) := by decide +kernel
theorem o26_0 : zop 26 0 = some (.aload_n 1, 1) := by decide +kernel
theorem o26_1 : zop 26 1 = some (.getfield 200, 3) := by decide +kernel
theorem o26_4 : zop 26 4 = some (.iconst 0, 1) := by decide +kernel
theorem o26_5 : zop 26 5 = some (.aload_n 0, 1) := by decide +kernel
theorem o26_6 : zop 26 6 = some (.getfield 200, 3) := by decide +kernel
theorem o26_9 : zop 26 9 = some (.iconst 0, 1) := by decide +kernel
theorem o26_10 : zop 26 10 = some (.bipush 6, 2) := by decide +kernel
theorem o26_12 : zop 26 12 = some (.invokestatic 1003, 3) := by decide +kernel
theorem o26_15 : zop 26 15 = some (.aload_n 1, 1) := by decide +kernel
theorem o26_16 : zop 26 16 = some (.getfield 201, 3) := by decide +kernel
theorem o26_19 : zop 26 19 = some (.iconst 0, 1) := by decide +kernel
theorem o26_20 : zop 26 20 = some (.aload_n 0, 1) := by decide +kernel
theorem o26_21 : zop 26 21 = some (.getfield 201, 3) := by decide +kernel
theorem o26_24 : zop 26 24 = some (.iconst 0, 1) := by decide +kernel
theorem o26_25 : zop 26 25 = some (.sipush 240, 3) := by decide +kernel
theorem o26_28 : zop 26 28 = some (.invokestatic 1003, 3) := by decide +kernel
theorem o26_31 : zop 26 31 = some (.aload_n 1, 1) := by decide +kernel
theorem o26_32 : zop 26 32 = some (.getfield 202, 3) := by decide +kernel
theorem o26_35 : zop 26 35 = some (.iconst 0, 1) := by decide +kernel
theorem o26_36 : zop 26 36 = some (.aload_n 0, 1) := by decide +kernel
theorem o26_37 : zop 26 37 = some (.getfield 202, 3) := by decide +kernel
theorem o26_40 : zop 26 40 = some (.iconst 0, 1) := by decide +kernel
theorem o26_41 : zop 26 41 = some (.bipush 36, 2) := by decide +kernel
theorem o26_43 : zop 26 43 = some (.invokestatic 1003, 3) := by decide +kernel
theorem o26_46 : zop 26 46 = some (.return_, 1) := by decide +kernel
theorem o27_0 : zop 27 0 = some (.aload_n 0, 1) := by decide +kernel
theorem o27_1 : zop 27 1 = some (.getfield 200, 3) := by decide +kernel
theorem o27_4 : zop 27 4 = some (.iconst 0, 1) := by decide +kernel
theorem o27_5 : zop 27 5 = some (.invokestatic 233, 3) := by decide +kernel
theorem o27_8 : zop 27 8 = some (.aload_n 0, 1) := by decide +kernel
theorem o27_9 : zop 27 9 = some (.getfield 202, 3) := by decide +kernel
theorem o27_12 : zop 27 12 = some (.iconst 0, 1) := by decide +kernel
theorem o27_13 : zop 27 13 = some (.invokestatic 233, 3) := by decide +kernel
theorem o27_16 : zop 27 16 = some (.iconst 0, 1) := by decide +kernel
theorem o27_17 : zop 27 17 = some (.istore_n 2, 1) := by decide +kernel
theorem o27_18 : zop 27 18 = some (.iload_n 2, 1) := by decide +kernel
theorem o27_19 : zop 27 19 = some (.aload_n 1, 1) := by decide +kernel
theorem o27_20 : zop 27 20 = some (.getfield 709, 3) := by decide +kernel
theorem o27_23 : zop 27 23 = some (.if_icmp .ge 29, 3) := by decide +kernel
theorem o27_26 : zop 27 26 = some (.aload_n 1, 1) := by decide +kernel
theorem o27_27 : zop 27 27 = some (.getfield 702, 3) := by decide +kernel
theorem o27_30 : zop 27 30 = some (.iload_n 2, 1) := by decide +kernel
theorem o27_31 : zop 27 31 = some (.iaload, 1) := by decide +kernel
theorem o27_32 : zop 27 32 = some (.istore_n 3, 1) := by decide +kernel
theorem o27_33 : zop 27 33 = some (.aload_n 0, 1) := by decide +kernel
theorem o27_34 : zop 27 34 = some (.aload_n 1, 1) := by decide +kernel
theorem o27_35 : zop 27 35 = some (.iload_n 3, 1) := by decide +kernel
theorem o27_36 : zop 27 36 = some (.aload_n 0, 1) := by decide +kernel
theorem o27_37 : zop 27 37 = some (.getfield 200, 3) := by decide +kernel
theorem o27_40 : zop 27 40 = some (.iload_n 3, 1) := by decide +kernel
theorem o27_41 : zop 27 41 = some (.iaload, 1) := by decide +kernel
theorem o27_42 : zop 27 42 = some (.iload_n 2, 1) := by decide +kernel
theorem o27_43 : zop 27 43 = some (.invokevirtual 18, 3) := by decide +kernel
theorem o27_46 : zop 27 46 = some (.iinc 2 1, 3) := by decide +kernel
theorem o27_49 : zop 27 49 = some (.goto (-31), 3) := by decide +kernel
theorem o27_52 : zop 27 52 = some (.return_, 1) := by decide +kernel
theorem o28_0 : zop 28 0 = some (.iconst 0, 1) := by decide +kernel
theorem o28_1 : zop 28 1 = some (.istore_n 2, 1) := by decide +kernel
theorem o28_2 : zop 28 2 = some (.iload_n 2, 1) := by decide +kernel
theorem o28_3 : zop 28 3 = some (.bipush 6, 2) := by decide +kernel
theorem o28_5 : zop 28 5 = some (.if_icmp .ge 39, 3) := by decide +kernel
theorem o28_8 : zop 28 8 = some (.iconst 0, 1) := by decide +kernel
theorem o28_9 : zop 28 9 = some (.istore_n 3, 1) := by decide +kernel
theorem o28_10 : zop 28 10 = some (.iload_n 3, 1) := by decide +kernel
theorem o28_11 : zop 28 11 = some (.aload_n 0, 1) := by decide +kernel
theorem o28_12 : zop 28 12 = some (.getfield 200, 3) := by decide +kernel
theorem o28_15 : zop 28 15 = some (.iload_n 2, 1) := by decide +kernel
theorem o28_16 : zop 28 16 = some (.iaload, 1) := by decide +kernel
theorem o28_17 : zop 28 17 = some (.if_icmp .ge 21, 3) := by decide +kernel
theorem o28_20 : zop 28 20 = some (.aload_n 0, 1) := by decide +kernel
theorem o28_21 : zop 28 21 = some (.iload_n 2, 1) := by decide +kernel
theorem o28_22 : zop 28 22 = some (.iload_n 3, 1) := by decide +kernel
theorem o28_23 : zop 28 23 = some (.invokevirtual 24, 3) := by decide +kernel
theorem o28_26 : zop 28 26 = some (.iload_n 1, 1) := by decide +kernel
theorem o28_27 : zop 28 27 = some (.if_icmp .ne 5, 3) := by decide +kernel
theorem o28_30 : zop 28 30 = some (.iload_n 3, 1) := by decide +kernel
theorem o28_31 : zop 28 31 = some (.ireturn, 1) := by decide +kernel
theorem o28_32 : zop 28 32 = some (.iinc 3 1, 3) := by decide +kernel
theorem o28_35 : zop 28 35 = some (.goto (-25), 3) := by decide +kernel
theorem o28_38 : zop 28 38 = some (.iinc 2 1, 3) := by decide +kernel
theorem o28_41 : zop 28 41 = some (.goto (-39), 3) := by decide +kernel
theorem o28_44 : zop 28 44 = some (.iconst (-1), 1) := by decide +kernel
theorem o28_45 : zop 28 45 = some (.ireturn, 1) := by decide +kernel
theorem o29_0 : zop 29 0 = some (.iconst 0, 1) := by decide +kernel
theorem o29_1 : zop 29 1 = some (.istore 4, 2) := by decide +kernel
theorem o29_3 : zop 29 3 = some (.iconst 0, 1) := by decide +kernel
theorem o29_4 : zop 29 4 = some (.istore 5, 2) := by decide +kernel
theorem o29_6 : zop 29 6 = some (.iconst 0, 1) := by decide +kernel
theorem o29_7 : zop 29 7 = some (.istore 6, 2) := by decide +kernel
theorem o29_9 : zop 29 9 = some (.iload 6, 2) := by decide +kernel
theorem o29_11 : zop 29 11 = some (.aload_n 0, 1) := by decide +kernel
theorem o29_12 : zop 29 12 = some (.getfield 200, 3) := by decide +kernel
theorem o29_15 : zop 29 15 = some (.iload_n 2, 1) := by decide +kernel
theorem o29_16 : zop 29 16 = some (.iaload, 1) := by decide +kernel
theorem o29_17 : zop 29 17 = some (.if_icmp .ge 67, 3) := by decide +kernel
theorem o29_20 : zop 29 20 = some (.aload_n 0, 1) := by decide +kernel
theorem o29_21 : zop 29 21 = some (.iload_n 2, 1) := by decide +kernel
theorem o29_22 : zop 29 22 = some (.iload 6, 2) := by decide +kernel
theorem o29_24 : zop 29 24 = some (.invokevirtual 24, 3) := by decide +kernel
theorem o29_27 : zop 29 27 = some (.istore 7, 2) := by decide +kernel
theorem o29_29 : zop 29 29 = some (.bipush 10, 2) := by decide +kernel
theorem o29_31 : zop 29 31 = some (.aload_n 1, 1) := by decide +kernel
theorem o29_32 : zop 29 32 = some (.getfield 703, 3) := by decide +kernel
theorem o29_35 : zop 29 35 = some (.iload 7, 2) := by decide +kernel
theorem o29_37 : zop 29 37 = some (.iaload, 1) := by decide +kernel
theorem o29_38 : zop 29 38 = some (.isub, 1) := by decide +kernel
theorem o29_39 : zop 29 39 = some (.aload_n 1, 1) := by decide +kernel
theorem o29_40 : zop 29 40 = some (.getfield 702, 3) := by decide +kernel
theorem o29_43 : zop 29 43 = some (.iload 7, 2) := by decide +kernel
theorem o29_45 : zop 29 45 = some (.iaload, 1) := by decide +kernel
theorem o29_46 : zop 29 46 = some (.iload_n 3, 1) := by decide +kernel
theorem o29_47 : zop 29 47 = some (.if_icmp .ne 7, 3) := by decide +kernel
theorem o29_50 : zop 29 50 = some (.iconst 0, 1) := by decide +kernel
theorem o29_51 : zop 29 51 = some (.goto 4, 3) := by decide +kernel
theorem o29_54 : zop 29 54 = some (.iconst 5, 1) := by decide +kernel
theorem o29_55 : zop 29 55 = some (.iadd, 1) := by decide +kernel
theorem o29_56 : zop 29 56 = some (.istore 8, 2) := by decide +kernel
theorem o29_58 : zop 29 58 = some (.iload 4, 2) := by decide +kernel
theorem o29_60 : zop 29 60 = some (.iload 5, 2) := by decide +kernel
theorem o29_62 : zop 29 62 = some (.invokestatic 1001, 3) := by decide +kernel
theorem o29_65 : zop 29 65 = some (.iload 8, 2) := by decide +kernel
theorem o29_67 : zop 29 67 = some (.iadd, 1) := by decide +kernel
theorem o29_68 : zop 29 68 = some (.istore 9, 2) := by decide +kernel
theorem o29_70 : zop 29 70 = some (.iload 5, 2) := by decide +kernel
theorem o29_72 : zop 29 72 = some (.istore 4, 2) := by decide +kernel
theorem o29_74 : zop 29 74 = some (.iload 9, 2) := by decide +kernel
theorem o29_76 : zop 29 76 = some (.istore 5, 2) := by decide +kernel
theorem o29_78 : zop 29 78 = some (.iinc 6 1, 3) := by decide +kernel
theorem o29_81 : zop 29 81 = some (.goto (-72), 3) := by decide +kernel
theorem o29_84 : zop 29 84 = some (.iload 4, 2) := by decide +kernel
theorem o29_86 : zop 29 86 = some (.iload 5, 2) := by decide +kernel
theorem o29_88 : zop 29 88 = some (.invokestatic 1001, 3) := by decide +kernel
theorem o29_91 : zop 29 91 = some (.ireturn, 1) := by decide +kernel
theorem o30_0 : zop 30 0 = some (.aload_n 0, 1) := by decide +kernel
theorem o30_1 : zop 30 1 = some (.getfield 200, 3) := by decide +kernel
theorem o30_4 : zop 30 4 = some (.iload_n 1, 1) := by decide +kernel
theorem o30_5 : zop 30 5 = some (.iaload, 1) := by decide +kernel
theorem o30_6 : zop 30 6 = some (.istore 4, 2) := by decide +kernel
theorem o30_8 : zop 30 8 = some (.iload 4, 2) := by decide +kernel
theorem o30_10 : zop 30 10 = some (.iconst 2, 1) := by decide +kernel
theorem o30_11 : zop 30 11 = some (.if_icmp .ge 4, 3) := by decide +kernel
theorem o30_14 : zop 30 14 = some (.return_, 1) := by decide +kernel
theorem o30_15 : zop 30 15 = some (.iload_n 1, 1) := by decide +kernel
theorem o30_16 : zop 30 16 = some (.bipush 40, 2) := by decide +kernel
theorem o30_18 : zop 30 18 = some (.imul, 1) := by decide +kernel
theorem o30_19 : zop 30 19 = some (.istore 5, 2) := by decide +kernel
theorem o30_21 : zop 30 21 = some (.iload_n 2, 1) := by decide +kernel
theorem o30_22 : zop 30 22 = some (.istore 6, 2) := by decide +kernel
theorem o30_24 : zop 30 24 = some (.iconst 0, 1) := by decide +kernel
theorem o30_25 : zop 30 25 = some (.istore 7, 2) := by decide +kernel
theorem o30_27 : zop 30 27 = some (.iload 7, 2) := by decide +kernel
theorem o30_29 : zop 30 29 = some (.iload_n 3, 1) := by decide +kernel
theorem o30_30 : zop 30 30 = some (.if_icmp .ge 97, 3) := by decide +kernel
theorem o30_33 : zop 30 33 = some (.iload 6, 2) := by decide +kernel
theorem o30_35 : zop 30 35 = some (.ldc 1000, 2) := by decide +kernel
theorem o30_37 : zop 30 37 = some (.imul, 1) := by decide +kernel
theorem o30_38 : zop 30 38 = some (.sipush 12345, 3) := by decide +kernel
theorem o30_41 : zop 30 41 = some (.iadd, 1) := by decide +kernel
theorem o30_42 : zop 30 42 = some (.istore 6, 2) := by decide +kernel
theorem o30_44 : zop 30 44 = some (.iload 5, 2) := by decide +kernel
theorem o30_46 : zop 30 46 = some (.iload 6, 2) := by decide +kernel
theorem o30_48 : zop 30 48 = some (.bipush 16, 2) := by decide +kernel
theorem o30_50 : zop 30 50 = some (.iushr, 1) := by decide +kernel
theorem o30_51 : zop 30 51 = some (.sipush 32767, 3) := by decide +kernel
theorem o30_54 : zop 30 54 = some (.iand, 1) := by decide +kernel
theorem o30_55 : zop 30 55 = some (.iload 4, 2) := by decide +kernel
theorem o30_57 : zop 30 57 = some (.irem, 1) := by decide +kernel
theorem o30_58 : zop 30 58 = some (.iadd, 1) := by decide +kernel
theorem o30_59 : zop 30 59 = some (.istore 8, 2) := by decide +kernel
theorem o30_61 : zop 30 61 = some (.iload 6, 2) := by decide +kernel
theorem o30_63 : zop 30 63 = some (.ldc 1000, 2) := by decide +kernel
theorem o30_65 : zop 30 65 = some (.imul, 1) := by decide +kernel
theorem o30_66 : zop 30 66 = some (.sipush 12345, 3) := by decide +kernel
theorem o30_69 : zop 30 69 = some (.iadd, 1) := by decide +kernel
theorem o30_70 : zop 30 70 = some (.istore 6, 2) := by decide +kernel
theorem o30_72 : zop 30 72 = some (.iload 5, 2) := by decide +kernel
theorem o30_74 : zop 30 74 = some (.iload 6, 2) := by decide +kernel
theorem o30_76 : zop 30 76 = some (.bipush 16, 2) := by decide +kernel
theorem o30_78 : zop 30 78 = some (.iushr, 1) := by decide +kernel
theorem o30_79 : zop 30 79 = some (.sipush 32767, 3) := by decide +kernel
theorem o30_82 : zop 30 82 = some (.iand, 1) := by decide +kernel
theorem o30_83 : zop 30 83 = some (.iload 4, 2) := by decide +kernel
theorem o30_85 : zop 30 85 = some (.irem, 1) := by decide +kernel
theorem o30_86 : zop 30 86 = some (.iadd, 1) := by decide +kernel
theorem o30_87 : zop 30 87 = some (.istore 9, 2) := by decide +kernel
theorem o30_89 : zop 30 89 = some (.aload_n 0, 1) := by decide +kernel
theorem o30_90 : zop 30 90 = some (.getfield 201, 3) := by decide +kernel
theorem o30_93 : zop 30 93 = some (.iload 8, 2) := by decide +kernel
theorem o30_95 : zop 30 95 = some (.iaload, 1) := by decide +kernel
theorem o30_96 : zop 30 96 = some (.istore 10, 2) := by decide +kernel
theorem o30_98 : zop 30 98 = some (.aload_n 0, 1) := by decide +kernel
theorem o30_99 : zop 30 99 = some (.getfield 201, 3) := by decide +kernel
theorem o30_102 : zop 30 102 = some (.iload 8, 2) := by decide +kernel
theorem o30_104 : zop 30 104 = some (.aload_n 0, 1) := by decide +kernel
theorem o30_105 : zop 30 105 = some (.getfield 201, 3) := by decide +kernel
theorem o30_108 : zop 30 108 = some (.iload 9, 2) := by decide +kernel
theorem o30_110 : zop 30 110 = some (.iaload, 1) := by decide +kernel
theorem o30_111 : zop 30 111 = some (.iastore, 1) := by decide +kernel
theorem o30_112 : zop 30 112 = some (.aload_n 0, 1) := by decide +kernel
theorem o30_113 : zop 30 113 = some (.getfield 201, 3) := by decide +kernel
theorem o30_116 : zop 30 116 = some (.iload 9, 2) := by decide +kernel
theorem o30_118 : zop 30 118 = some (.iload 10, 2) := by decide +kernel
theorem o30_120 : zop 30 120 = some (.iastore, 1) := by decide +kernel
theorem o30_121 : zop 30 121 = some (.iinc 7 1, 3) := by decide +kernel
theorem o30_124 : zop 30 124 = some (.goto (-97), 3) := by decide +kernel
theorem o30_127 : zop 30 127 = some (.return_, 1) := by decide +kernel
theorem o31_0 : zop 31 0 = some (.aload_n 0, 1) := by decide +kernel
theorem o31_1 : zop 31 1 = some (.invokespecial 1000, 3) := by decide +kernel
theorem o31_4 : zop 31 4 = some (.aload_n 0, 1) := by decide +kernel
theorem o31_5 : zop 31 5 = some (.sipush 600, 3) := by decide +kernel
theorem o31_8 : zop 31 8 = some (.newarray .byte, 2) := by decide +kernel
theorem o31_10 : zop 31 10 = some (.putfield 300, 3) := by decide +kernel
theorem o31_13 : zop 31 13 = some (.aload_n 0, 1) := by decide +kernel
theorem o31_14 : zop 31 14 = some (.iconst 0, 1) := by decide +kernel
theorem o31_15 : zop 31 15 = some (.putfield 301, 3) := by decide +kernel
theorem o31_18 : zop 31 18 = some (.aload_n 0, 1) := by decide +kernel
theorem o31_19 : zop 31 19 = some (.iconst 0, 1) := by decide +kernel
theorem o31_20 : zop 31 20 = some (.putfield 302, 3) := by decide +kernel
theorem o31_23 : zop 31 23 = some (.aload_n 0, 1) := by decide +kernel
theorem o31_24 : zop 31 24 = some (.iconst 0, 1) := by decide +kernel
theorem o31_25 : zop 31 25 = some (.putfield 303, 3) := by decide +kernel
theorem o31_28 : zop 31 28 = some (.aload_n 0, 1) := by decide +kernel
theorem o31_29 : zop 31 29 = some (.iconst (-1), 1) := by decide +kernel
theorem o31_30 : zop 31 30 = some (.putfield 304, 3) := by decide +kernel
theorem o31_33 : zop 31 33 = some (.aload_n 0, 1) := by decide +kernel
theorem o31_34 : zop 31 34 = some (.iconst 0, 1) := by decide +kernel
theorem o31_35 : zop 31 35 = some (.putfield 305, 3) := by decide +kernel
theorem o31_38 : zop 31 38 = some (.aload_n 0, 1) := by decide +kernel
theorem o31_39 : zop 31 39 = some (.iconst 0, 1) := by decide +kernel
theorem o31_40 : zop 31 40 = some (.putfield 306, 3) := by decide +kernel
theorem o31_43 : zop 31 43 = some (.return_, 1) := by decide +kernel
theorem o32_0 : zop 32 0 = some (.bipush 24, 2) := by decide +kernel
theorem o32_2 : zop 32 2 = some (.istore_n 2, 1) := by decide +kernel
theorem o32_3 : zop 32 3 = some (.iload_n 2, 1) := by decide +kernel
theorem o32_4 : zop 32 4 = some (.ifCond .lt 42, 3) := by decide +kernel
theorem o32_7 : zop 32 7 = some (.aload_n 0, 1) := by decide +kernel
theorem o32_8 : zop 32 8 = some (.getfield 301, 3) := by decide +kernel
theorem o32_11 : zop 32 11 = some (.sipush 600, 3) := by decide +kernel
theorem o32_14 : zop 32 14 = some (.if_icmp .ge 32, 3) := by decide +kernel
theorem o32_17 : zop 32 17 = some (.aload_n 0, 1) := by decide +kernel
theorem o32_18 : zop 32 18 = some (.getfield 300, 3) := by decide +kernel
theorem o32_21 : zop 32 21 = some (.aload_n 0, 1) := by decide +kernel
theorem o32_22 : zop 32 22 = some (.getfield 301, 3) := by decide +kernel
theorem o32_25 : zop 32 25 = some (.iload_n 1, 1) := by decide +kernel
theorem o32_26 : zop 32 26 = some (.iload_n 2, 1) := by decide +kernel
theorem o32_27 : zop 32 27 = some (.ishr, 1) := by decide +kernel
theorem o32_28 : zop 32 28 = some (.i2b, 1) := by decide +kernel
theorem o32_29 : zop 32 29 = some (.bastore, 1) := by decide +kernel
theorem o32_30 : zop 32 30 = some (.aload_n 0, 1) := by decide +kernel
theorem o32_31 : zop 32 31 = some (.dup, 1) := by decide +kernel
theorem o32_32 : zop 32 32 = some (.getfield 301, 3) := by decide +kernel
theorem o32_35 : zop 32 35 = some (.iconst 1, 1) := by decide +kernel
theorem o32_36 : zop 32 36 = some (.iadd, 1) := by decide +kernel
theorem o32_37 : zop 32 37 = some (.putfield 301, 3) := by decide +kernel
theorem o32_40 : zop 32 40 = some (.iinc 2 (-8), 3) := by decide +kernel
theorem o32_43 : zop 32 43 = some (.goto (-40), 3) := by decide +kernel
theorem o32_46 : zop 32 46 = some (.return_, 1) := by decide +kernel
theorem o33_0 : zop 33 0 = some (.aload_n 0, 1) := by decide +kernel
theorem o33_1 : zop 33 1 = some (.iload_n 1, 1) := by decide +kernel
theorem o33_2 : zop 33 2 = some (.sipush 600, 3) := by decide +kernel
theorem o33_5 : zop 33 5 = some (.invokestatic 1001, 3) := by decide +kernel
theorem o33_8 : zop 33 8 = some (.putfield 306, 3) := by decide +kernel
theorem o33_11 : zop 33 11 = some (.aload_n 0, 1) := by decide +kernel
theorem o33_12 : zop 33 12 = some (.iconst 0, 1) := by decide +kernel
theorem o33_13 : zop 33 13 = some (.putfield 305, 3) := by decide +kernel
theorem o33_16 : zop 33 16 = some (.aload_n 0, 1) := by decide +kernel
theorem o33_17 : zop 33 17 = some (.invokevirtual 34, 3) := by decide +kernel
theorem o33_20 : zop 33 20 = some (.return_, 1) := by decide +kernel
theorem o34_0 : zop 34 0 = some (.aload_n 0, 1) := by decide +kernel
theorem o34_1 : zop 34 1 = some (.getfield 305, 3) := by decide +kernel
theorem o34_4 : zop 34 4 = some (.aload_n 0, 1) := by decide +kernel
theorem o34_5 : zop 34 5 = some (.getfield 306, 3) := by decide +kernel
theorem o34_8 : zop 34 8 = some (.if_icmp .ge 31, 3) := by decide +kernel
theorem o34_11 : zop 34 11 = some (.aload_n 0, 1) := by decide +kernel
theorem o34_12 : zop 34 12 = some (.getfield 300, 3) := by decide +kernel
theorem o34_15 : zop 34 15 = some (.aload_n 0, 1) := by decide +kernel
theorem o34_16 : zop 34 16 = some (.getfield 305, 3) := by decide +kernel
theorem o34_19 : zop 34 19 = some (.baload, 1) := by decide +kernel
theorem o34_20 : zop 34 20 = some (.invokestatic 35, 3) := by decide +kernel
theorem o34_23 : zop 34 23 = some (.ifCond .eq 16, 3) := by decide +kernel
theorem o34_26 : zop 34 26 = some (.aload_n 0, 1) := by decide +kernel
theorem o34_27 : zop 34 27 = some (.dup, 1) := by decide +kernel
theorem o34_28 : zop 34 28 = some (.getfield 305, 3) := by decide +kernel
theorem o34_31 : zop 34 31 = some (.iconst 1, 1) := by decide +kernel
theorem o34_32 : zop 34 32 = some (.iadd, 1) := by decide +kernel
theorem o34_33 : zop 34 33 = some (.putfield 305, 3) := by decide +kernel
theorem o34_36 : zop 34 36 = some (.goto (-36), 3) := by decide +kernel
theorem o34_39 : zop 34 39 = some (.aload_n 0, 1) := by decide +kernel
theorem o34_40 : zop 34 40 = some (.aload_n 0, 1) := by decide +kernel
theorem o34_41 : zop 34 41 = some (.getfield 305, 3) := by decide +kernel
theorem o34_44 : zop 34 44 = some (.putfield 303, 3) := by decide +kernel
theorem o34_47 : zop 34 47 = some (.aload_n 0, 1) := by decide +kernel
theorem o34_48 : zop 34 48 = some (.getfield 303, 3) := by decide +kernel
theorem o34_51 : zop 34 51 = some (.aload_n 0, 1) := by decide +kernel
theorem o34_52 : zop 34 52 = some (.getfield 306, 3) := by decide +kernel
theorem o34_55 : zop 34 55 = some (.if_icmp .lt 11, 3) := by decide +kernel
theorem o34_58 : zop 34 58 = some (.aload_n 0, 1) := by decide +kernel
theorem o34_59 : zop 34 59 = some (.iconst 0, 1) := by decide +kernel
theorem o34_60 : zop 34 60 = some (.putfield 302, 3) := by decide +kernel
theorem o34_63 : zop 34 63 = some (.goto 182, 3) := by decide +kernel
theorem o34_66 : zop 34 66 = some (.aload_n 0, 1) := by decide +kernel
theorem o34_67 : zop 34 67 = some (.getfield 300, 3) := by decide +kernel
theorem o34_70 : zop 34 70 = some (.aload_n 0, 1) := by decide +kernel
theorem o34_71 : zop 34 71 = some (.getfield 303, 3) := by decide +kernel
theorem o34_74 : zop 34 74 = some (.baload, 1) := by decide +kernel
theorem o34_75 : zop 34 75 = some (.invokestatic 36, 3) := by decide +kernel
theorem o34_78 : zop 34 78 = some (.ifCond .eq 47, 3) := by decide +kernel
theorem o34_81 : zop 34 81 = some (.aload_n 0, 1) := by decide +kernel
theorem o34_82 : zop 34 82 = some (.iconst 1, 1) := by decide +kernel
theorem o34_83 : zop 34 83 = some (.putfield 302, 3) := by decide +kernel
theorem o34_86 : zop 34 86 = some (.aload_n 0, 1) := by decide +kernel
theorem o34_87 : zop 34 87 = some (.getfield 305, 3) := by decide +kernel
theorem o34_90 : zop 34 90 = some (.aload_n 0, 1) := by decide +kernel
theorem o34_91 : zop 34 91 = some (.getfield 306, 3) := by decide +kernel
theorem o34_94 : zop 34 94 = some (.if_icmp .ge 151, 3) := by decide +kernel
theorem o34_97 : zop 34 97 = some (.aload_n 0, 1) := by decide +kernel
theorem o34_98 : zop 34 98 = some (.getfield 300, 3) := by decide +kernel
theorem o34_101 : zop 34 101 = some (.aload_n 0, 1) := by decide +kernel
theorem o34_102 : zop 34 102 = some (.getfield 305, 3) := by decide +kernel
theorem o34_105 : zop 34 105 = some (.baload, 1) := by decide +kernel
theorem o34_106 : zop 34 106 = some (.invokestatic 36, 3) := by decide +kernel
theorem o34_109 : zop 34 109 = some (.ifCond .eq 136, 3) := by decide +kernel
theorem o34_112 : zop 34 112 = some (.aload_n 0, 1) := by decide +kernel
theorem o34_113 : zop 34 113 = some (.dup, 1) := by decide +kernel
theorem o34_114 : zop 34 114 = some (.getfield 305, 3) := by decide +kernel
theorem o34_117 : zop 34 117 = some (.iconst 1, 1) := by decide +kernel
theorem o34_118 : zop 34 118 = some (.iadd, 1) := by decide +kernel
theorem o34_119 : zop 34 119 = some (.putfield 305, 3) := by decide +kernel
theorem o34_122 : zop 34 122 = some (.goto (-36), 3) := by decide +kernel
theorem o34_125 : zop 34 125 = some (.aload_n 0, 1) := by decide +kernel
theorem o34_126 : zop 34 126 = some (.getfield 300, 3) := by decide +kernel
theorem o34_129 : zop 34 129 = some (.aload_n 0, 1) := by decide +kernel
theorem o34_130 : zop 34 130 = some (.getfield 303, 3) := by decide +kernel
theorem o34_133 : zop 34 133 = some (.baload, 1) := by decide +kernel
theorem o34_134 : zop 34 134 = some (.invokestatic 37, 3) := by decide +kernel
theorem o34_137 : zop 34 137 = some (.ifCond .eq 93, 3) := by decide +kernel
theorem o34_140 : zop 34 140 = some (.aload_n 0, 1) := by decide +kernel
theorem o34_141 : zop 34 141 = some (.iconst 2, 1) := by decide +kernel
theorem o34_142 : zop 34 142 = some (.putfield 302, 3) := by decide +kernel
theorem o34_145 : zop 34 145 = some (.aload_n 0, 1) := by decide +kernel
theorem o34_146 : zop 34 146 = some (.iconst 0, 1) := by decide +kernel
theorem o34_147 : zop 34 147 = some (.putfield 304, 3) := by decide +kernel
theorem o34_150 : zop 34 150 = some (.aload_n 0, 1) := by decide +kernel
theorem o34_151 : zop 34 151 = some (.getfield 305, 3) := by decide +kernel
theorem o34_154 : zop 34 154 = some (.aload_n 0, 1) := by decide +kernel
theorem o34_155 : zop 34 155 = some (.getfield 306, 3) := by decide +kernel
theorem o34_158 : zop 34 158 = some (.if_icmp .ge 87, 3) := by decide +kernel
theorem o34_161 : zop 34 161 = some (.aload_n 0, 1) := by decide +kernel
theorem o34_162 : zop 34 162 = some (.getfield 300, 3) := by decide +kernel
theorem o34_165 : zop 34 165 = some (.aload_n 0, 1) := by decide +kernel
theorem o34_166 : zop 34 166 = some (.getfield 305, 3) := by decide +kernel
theorem o34_169 : zop 34 169 = some (.baload, 1) := by decide +kernel
theorem o34_170 : zop 34 170 = some (.invokestatic 37, 3) := by decide +kernel
theorem o34_173 : zop 34 173 = some (.ifCond .eq 72, 3) := by decide +kernel
theorem o34_176 : zop 34 176 = some (.aload_n 0, 1) := by decide +kernel
theorem o34_177 : zop 34 177 = some (.aload_n 0, 1) := by decide +kernel
theorem o34_178 : zop 34 178 = some (.getfield 305, 3) := by decide +kernel
theorem o34_181 : zop 34 181 = some (.aload_n 0, 1) := by decide +kernel
theorem o34_182 : zop 34 182 = some (.getfield 303, 3) := by decide +kernel
theorem o34_185 : zop 34 185 = some (.isub, 1) := by decide +kernel
theorem o34_186 : zop 34 186 = some (.iconst 4, 1) := by decide +kernel
theorem o34_187 : zop 34 187 = some (.if_icmp .ge 26, 3) := by decide +kernel
theorem o34_190 : zop 34 190 = some (.aload_n 0, 1) := by decide +kernel
theorem o34_191 : zop 34 191 = some (.getfield 304, 3) := by decide +kernel
theorem o34_194 : zop 34 194 = some (.bipush 10, 2) := by decide +kernel
theorem o34_196 : zop 34 196 = some (.imul, 1) := by decide +kernel
theorem o34_197 : zop 34 197 = some (.aload_n 0, 1) := by decide +kernel
theorem o34_198 : zop 34 198 = some (.getfield 300, 3) := by decide +kernel
theorem o34_201 : zop 34 201 = some (.aload_n 0, 1) := by decide +kernel
theorem o34_202 : zop 34 202 = some (.getfield 305, 3) := by decide +kernel
theorem o34_205 : zop 34 205 = some (.baload, 1) := by decide +kernel
theorem o34_206 : zop 34 206 = some (.bipush 48, 2) := by decide +kernel
theorem o34_208 : zop 34 208 = some (.isub, 1) := by decide +kernel
theorem o34_209 : zop 34 209 = some (.iadd, 1) := by decide +kernel
theorem o34_210 : zop 34 210 = some (.goto 4, 3) := by decide +kernel
theorem o34_213 : zop 34 213 = some (.iconst (-1), 1) := by decide +kernel
theorem o34_214 : zop 34 214 = some (.putfield 304, 3) := by decide +kernel
theorem o34_217 : zop 34 217 = some (.aload_n 0, 1) := by decide +kernel
theorem o34_218 : zop 34 218 = some (.dup, 1) := by decide +kernel
theorem o34_219 : zop 34 219 = some (.getfield 305, 3) := by decide +kernel
theorem o34_222 : zop 34 222 = some (.iconst 1, 1) := by decide +kernel
theorem o34_223 : zop 34 223 = some (.iadd, 1) := by decide +kernel
theorem o34_224 : zop 34 224 = some (.putfield 305, 3) := by decide +kernel
theorem o34_227 : zop 34 227 = some (.goto (-77), 3) := by decide +kernel
theorem o34_230 : zop 34 230 = some (.aload_n 0, 1) := by decide +kernel
theorem o34_231 : zop 34 231 = some (.iconst 3, 1) := by decide +kernel
theorem o34_232 : zop 34 232 = some (.putfield 302, 3) := by decide +kernel
theorem o34_235 : zop 34 235 = some (.aload_n 0, 1) := by decide +kernel
theorem o34_236 : zop 34 236 = some (.dup, 1) := by decide +kernel
theorem o34_237 : zop 34 237 = some (.getfield 305, 3) := by decide +kernel
theorem o34_240 : zop 34 240 = some (.iconst 1, 1) := by decide +kernel
theorem o34_241 : zop 34 241 = some (.iadd, 1) := by decide +kernel
theorem o34_242 : zop 34 242 = some (.putfield 305, 3) := by decide +kernel
theorem o34_245 : zop 34 245 = some (.return_, 1) := by decide +kernel
theorem o35_0 : zop 35 0 = some (.iload_n 0, 1) := by decide +kernel
theorem o35_1 : zop 35 1 = some (.bipush 32, 2) := by decide +kernel
theorem o35_3 : zop 35 3 = some (.if_icmp .eq 9, 3) := by decide +kernel
theorem o35_6 : zop 35 6 = some (.iload_n 0, 1) := by decide +kernel
theorem o35_7 : zop 35 7 = some (.bipush 10, 2) := by decide +kernel
theorem o35_9 : zop 35 9 = some (.if_icmp .ne 7, 3) := by decide +kernel
theorem o35_12 : zop 35 12 = some (.iconst 1, 1) := by decide +kernel
theorem o35_13 : zop 35 13 = some (.goto 4, 3) := by decide +kernel
theorem o35_16 : zop 35 16 = some (.iconst 0, 1) := by decide +kernel
theorem o35_17 : zop 35 17 = some (.ireturn, 1) := by decide +kernel
theorem o36_0 : zop 36 0 = some (.iload_n 0, 1) := by decide +kernel
theorem o36_1 : zop 36 1 = some (.bipush 97, 2) := by decide +kernel
theorem o36_3 : zop 36 3 = some (.if_icmp .lt 13, 3) := by decide +kernel
theorem o36_6 : zop 36 6 = some (.iload_n 0, 1) := by decide +kernel
theorem o36_7 : zop 36 7 = some (.bipush 122, 2) := by decide +kernel
theorem o36_9 : zop 36 9 = some (.if_icmp .gt 7, 3) := by decide +kernel
theorem o36_12 : zop 36 12 = some (.iconst 1, 1) := by decide +kernel
theorem o36_13 : zop 36 13 = some (.goto 4, 3) := by decide +kernel
theorem o36_16 : zop 36 16 = some (.iconst 0, 1) := by decide +kernel
theorem o36_17 : zop 36 17 = some (.ireturn, 1) := by decide +kernel
theorem o37_0 : zop 37 0 = some (.iload_n 0, 1) := by decide +kernel
theorem o37_1 : zop 37 1 = some (.bipush 48, 2) := by decide +kernel
theorem o37_3 : zop 37 3 = some (.if_icmp .lt 13, 3) := by decide +kernel
theorem o37_6 : zop 37 6 = some (.iload_n 0, 1) := by decide +kernel
theorem o37_7 : zop 37 7 = some (.bipush 57, 2) := by decide +kernel
theorem o37_9 : zop 37 9 = some (.if_icmp .gt 7, 3) := by decide +kernel
theorem o37_12 : zop 37 12 = some (.iconst 1, 1) := by decide +kernel
theorem o37_13 : zop 37 13 = some (.goto 4, 3) := by decide +kernel
theorem o37_16 : zop 37 16 = some (.iconst 0, 1) := by decide +kernel
theorem o37_17 : zop 37 17 = some (.ireturn, 1) := by decide +kernel
theorem o38_0 : zop 38 0 = some (.aload_n 0, 1) := by decide +kernel
theorem o38_1 : zop 38 1 = some (.getfield 302, 3) := by decide +kernel
theorem o38_4 : zop 38 4 = some (.iconst 1, 1) := by decide +kernel
theorem o38_5 : zop 38 5 = some (.if_icmp .ne 19, 3) := by decide +kernel
theorem o38_8 : zop 38 8 = some (.aload_n 0, 1) := by decide +kernel
theorem o38_9 : zop 38 9 = some (.getfield 305, 3) := by decide +kernel
theorem o38_12 : zop 38 12 = some (.aload_n 0, 1) := by decide +kernel
theorem o38_13 : zop 38 13 = some (.getfield 303, 3) := by decide +kernel
theorem o38_16 : zop 38 16 = some (.isub, 1) := by decide +kernel
theorem o38_17 : zop 38 17 = some (.aload_n 1, 1) := by decide +kernel
theorem o38_18 : zop 38 18 = some (.invokevirtual 226, 3) := by decide +kernel
theorem o38_21 : zop 38 21 = some (.if_icmp .eq 5, 3) := by decide +kernel
theorem o38_24 : zop 38 24 = some (.iconst 0, 1) := by decide +kernel
theorem o38_25 : zop 38 25 = some (.ireturn, 1) := by decide +kernel
theorem o38_26 : zop 38 26 = some (.iconst 0, 1) := by decide +kernel
theorem o38_27 : zop 38 27 = some (.istore_n 2, 1) := by decide +kernel
theorem o38_28 : zop 38 28 = some (.iload_n 2, 1) := by decide +kernel
theorem o38_29 : zop 38 29 = some (.aload_n 1, 1) := by decide +kernel
theorem o38_30 : zop 38 30 = some (.invokevirtual 226, 3) := by decide +kernel
theorem o38_33 : zop 38 33 = some (.if_icmp .ge 30, 3) := by decide +kernel
theorem o38_36 : zop 38 36 = some (.aload_n 0, 1) := by decide +kernel
theorem o38_37 : zop 38 37 = some (.getfield 300, 3) := by decide +kernel
theorem o38_40 : zop 38 40 = some (.aload_n 0, 1) := by decide +kernel
theorem o38_41 : zop 38 41 = some (.getfield 303, 3) := by decide +kernel
theorem o38_44 : zop 38 44 = some (.iload_n 2, 1) := by decide +kernel
theorem o38_45 : zop 38 45 = some (.iadd, 1) := by decide +kernel
theorem o38_46 : zop 38 46 = some (.baload, 1) := by decide +kernel
theorem o38_47 : zop 38 47 = some (.aload_n 1, 1) := by decide +kernel
theorem o38_48 : zop 38 48 = some (.iload_n 2, 1) := by decide +kernel
theorem o38_49 : zop 38 49 = some (.invokevirtual 228, 3) := by decide +kernel
theorem o38_52 : zop 38 52 = some (.if_icmp .eq 5, 3) := by decide +kernel
theorem o38_55 : zop 38 55 = some (.iconst 0, 1) := by decide +kernel
theorem o38_56 : zop 38 56 = some (.ireturn, 1) := by decide +kernel
theorem o38_57 : zop 38 57 = some (.iinc 2 1, 3) := by decide +kernel
theorem o38_60 : zop 38 60 = some (.goto (-32), 3) := by decide +kernel
theorem o38_63 : zop 38 63 = some (.iconst 1, 1) := by decide +kernel
theorem o38_64 : zop 38 64 = some (.ireturn, 1) := by decide +kernel
theorem o39_0 : zop 39 0 = some (.aload_n 0, 1) := by decide +kernel
theorem o39_1 : zop 39 1 = some (.getfield 302, 3) := by decide +kernel
theorem o39_4 : zop 39 4 = some (.iconst 3, 1) := by decide +kernel
theorem o39_5 : zop 39 5 = some (.if_icmp .ne 31, 3) := by decide +kernel
theorem o39_8 : zop 39 8 = some (.aload_n 0, 1) := by decide +kernel
theorem o39_9 : zop 39 9 = some (.getfield 303, 3) := by decide +kernel
theorem o39_12 : zop 39 12 = some (.aload_n 0, 1) := by decide +kernel
theorem o39_13 : zop 39 13 = some (.getfield 306, 3) := by decide +kernel
theorem o39_16 : zop 39 16 = some (.if_icmp .ge 20, 3) := by decide +kernel
theorem o39_19 : zop 39 19 = some (.aload_n 0, 1) := by decide +kernel
theorem o39_20 : zop 39 20 = some (.getfield 300, 3) := by decide +kernel
theorem o39_23 : zop 39 23 = some (.aload_n 0, 1) := by decide +kernel
theorem o39_24 : zop 39 24 = some (.getfield 303, 3) := by decide +kernel
theorem o39_27 : zop 39 27 = some (.baload, 1) := by decide +kernel
theorem o39_28 : zop 39 28 = some (.iload_n 1, 1) := by decide +kernel
theorem o39_29 : zop 39 29 = some (.if_icmp .ne 7, 3) := by decide +kernel
theorem o39_32 : zop 39 32 = some (.iconst 1, 1) := by decide +kernel
theorem o39_33 : zop 39 33 = some (.goto 4, 3) := by decide +kernel
theorem o39_36 : zop 39 36 = some (.iconst 0, 1) := by decide +kernel
theorem o39_37 : zop 39 37 = some (.ireturn, 1) := by decide +kernel
theorem o40_0 : zop 40 0 = some (.aload_n 0, 1) := by decide +kernel
theorem o40_1 : zop 40 1 = some (.invokespecial 1000, 3) := by decide +kernel
theorem o40_4 : zop 40 4 = some (.aload_n 0, 1) := by decide +kernel
theorem o40_5 : zop 40 5 = some (.sipush 600, 3) := by decide +kernel
theorem o40_8 : zop 40 8 = some (.newarray .int, 2) := by decide +kernel
theorem o40_10 : zop 40 10 = some (.putfield 400, 3) := by decide +kernel
theorem o40_13 : zop 40 13 = some (.aload_n 0, 1) := by decide +kernel
theorem o40_14 : zop 40 14 = some (.bipush 6, 2) := by decide +kernel
theorem o40_16 : zop 40 16 = some (.newarray .int, 2) := by decide +kernel
theorem o40_18 : zop 40 18 = some (.putfield 401, 3) := by decide +kernel
theorem o40_21 : zop 40 21 = some (.aload_n 0, 1) := by decide +kernel
theorem o40_22 : zop 40 22 = some (.bipush 40, 2) := by decide +kernel
theorem o40_24 : zop 40 24 = some (.newarray .int, 2) := by decide +kernel
theorem o40_26 : zop 40 26 = some (.putfield 402, 3) := by decide +kernel
theorem o40_29 : zop 40 29 = some (.aload_n 0, 1) := by decide +kernel
theorem o40_30 : zop 40 30 = some (.iconst 0, 1) := by decide +kernel
theorem o40_31 : zop 40 31 = some (.putfield 403, 3) := by decide +kernel
theorem o40_34 : zop 40 34 = some (.aload_n 0, 1) := by decide +kernel
theorem o40_35 : zop 40 35 = some (.iconst 0, 1) := by decide +kernel
theorem o40_36 : zop 40 36 = some (.putfield 404, 3) := by decide +kernel
theorem o40_39 : zop 40 39 = some (.return_, 1) := by decide +kernel
theorem o41_0 : zop 41 0 = some (.aload_n 0, 1) := by decide +kernel
theorem o41_1 : zop 41 1 = some (.getfield 403, 3) := by decide +kernel
theorem o41_4 : zop 41 4 = some (.sipush 600, 3) := by decide +kernel
theorem o41_7 : zop 41 7 = some (.if_icmp .ge 23, 3) := by decide +kernel
theorem o41_10 : zop 41 10 = some (.aload_n 0, 1) := by decide +kernel
theorem o41_11 : zop 41 11 = some (.getfield 400, 3) := by decide +kernel
theorem o41_14 : zop 41 14 = some (.aload_n 0, 1) := by decide +kernel
theorem o41_15 : zop 41 15 = some (.getfield 403, 3) := by decide +kernel
theorem o41_18 : zop 41 18 = some (.iload_n 1, 1) := by decide +kernel
theorem o41_19 : zop 41 19 = some (.iastore, 1) := by decide +kernel
theorem o41_20 : zop 41 20 = some (.aload_n 0, 1) := by decide +kernel
theorem o41_21 : zop 41 21 = some (.dup, 1) := by decide +kernel
theorem o41_22 : zop 41 22 = some (.getfield 403, 3) := by decide +kernel
theorem o41_25 : zop 41 25 = some (.iconst 1, 1) := by decide +kernel
theorem o41_26 : zop 41 26 = some (.iadd, 1) := by decide +kernel
theorem o41_27 : zop 41 27 = some (.putfield 403, 3) := by decide +kernel
theorem o41_30 : zop 41 30 = some (.return_, 1) := by decide +kernel
theorem o42_0 : zop 42 0 = some (.aload_n 1, 1) := by decide +kernel
theorem o42_1 : zop 42 1 = some (.getfield 400, 3) := by decide +kernel
theorem o42_4 : zop 42 4 = some (.iconst 0, 1) := by decide +kernel
theorem o42_5 : zop 42 5 = some (.aload_n 0, 1) := by decide +kernel
theorem o42_6 : zop 42 6 = some (.getfield 400, 3) := by decide +kernel
theorem o42_9 : zop 42 9 = some (.iconst 0, 1) := by decide +kernel
theorem o42_10 : zop 42 10 = some (.sipush 600, 3) := by decide +kernel
theorem o42_13 : zop 42 13 = some (.invokestatic 1003, 3) := by decide +kernel
theorem o42_16 : zop 42 16 = some (.aload_n 0, 1) := by decide +kernel
theorem o42_17 : zop 42 17 = some (.aload_n 1, 1) := by decide +kernel
theorem o42_18 : zop 42 18 = some (.getfield 403, 3) := by decide +kernel
theorem o42_21 : zop 42 21 = some (.putfield 403, 3) := by decide +kernel
theorem o42_24 : zop 42 24 = some (.return_, 1) := by decide +kernel
theorem o43_0 : zop 43 0 = some (.iconst (-1), 1) := by decide +kernel
theorem o43_1 : zop 43 1 = some (.iload_n 1, 1) := by decide +kernel
theorem o43_2 : zop 43 2 = some (.isub, 1) := by decide +kernel
theorem o43_3 : zop 43 3 = some (.istore_n 3, 1) := by decide +kernel
theorem o43_4 : zop 43 4 = some (.iload_n 3, 1) := by decide +kernel
theorem o43_5 : zop 43 5 = some (.ifCond .lt 16, 3) := by decide +kernel
theorem o43_8 : zop 43 8 = some (.iload_n 3, 1) := by decide +kernel
theorem o43_9 : zop 43 9 = some (.bipush 6, 2) := by decide +kernel
theorem o43_11 : zop 43 11 = some (.if_icmp .ge 10, 3) := by decide +kernel
theorem o43_14 : zop 43 14 = some (.aload_n 0, 1) := by decide +kernel
theorem o43_15 : zop 43 15 = some (.getfield 401, 3) := by decide +kernel
theorem o43_18 : zop 43 18 = some (.iload_n 3, 1) := by decide +kernel
theorem o43_19 : zop 43 19 = some (.iload_n 2, 1) := by decide +kernel
theorem o43_20 : zop 43 20 = some (.iastore, 1) := by decide +kernel
theorem o43_21 : zop 43 21 = some (.return_, 1) := by decide +kernel
theorem o44_0 : zop 44 0 = some (.aload_n 0, 1) := by decide +kernel
theorem o44_1 : zop 44 1 = some (.getfield 403, 3) := by decide +kernel
theorem o44_4 : zop 44 4 = some (.ifCond .ne 5, 3) := by decide +kernel
theorem o44_7 : zop 44 7 = some (.iconst 0, 1) := by decide +kernel
theorem o44_8 : zop 44 8 = some (.ireturn, 1) := by decide +kernel
theorem o44_9 : zop 44 9 = some (.aload_n 0, 1) := by decide +kernel
theorem o44_10 : zop 44 10 = some (.iconst 0, 1) := by decide +kernel
theorem o44_11 : zop 44 11 = some (.putfield 404, 3) := by decide +kernel
theorem o44_14 : zop 44 14 = some (.iconst 0, 1) := by decide +kernel
theorem o44_15 : zop 44 15 = some (.istore_n 1, 1) := by decide +kernel
theorem o44_16 : zop 44 16 = some (.iload_n 1, 1) := by decide +kernel
theorem o44_17 : zop 44 17 = some (.aload_n 0, 1) := by decide +kernel
theorem o44_18 : zop 44 18 = some (.getfield 403, 3) := by decide +kernel
theorem o44_21 : zop 44 21 = some (.if_icmp .ge 26, 3) := by decide +kernel
theorem o44_24 : zop 44 24 = some (.iload_n 1, 1) := by decide +kernel
theorem o44_25 : zop 44 25 = some (.sipush 600, 3) := by decide +kernel
theorem o44_28 : zop 44 28 = some (.if_icmp .ge 19, 3) := by decide +kernel
theorem o44_31 : zop 44 31 = some (.aload_n 0, 1) := by decide +kernel
theorem o44_32 : zop 44 32 = some (.aload_n 0, 1) := by decide +kernel
theorem o44_33 : zop 44 33 = some (.getfield 400, 3) := by decide +kernel
theorem o44_36 : zop 44 36 = some (.iload_n 1, 1) := by decide +kernel
theorem o44_37 : zop 44 37 = some (.iaload, 1) := by decide +kernel
theorem o44_38 : zop 44 38 = some (.invokevirtual 45, 3) := by decide +kernel
theorem o44_41 : zop 44 41 = some (.iinc 1 1, 3) := by decide +kernel
theorem o44_44 : zop 44 44 = some (.goto (-28), 3) := by decide +kernel
theorem o44_47 : zop 44 47 = some (.aload_n 0, 1) := by decide +kernel
theorem o44_48 : zop 44 48 = some (.invokevirtual 47, 3) := by decide +kernel
theorem o44_51 : zop 44 51 = some (.ireturn, 1) := by decide +kernel
theorem o45_0 : zop 45 0 = some (.iload_n 1, 1) := by decide +kernel
theorem o45_1 : zop 45 1 = some (.ifCond .lt 11, 3) := by decide +kernel
theorem o45_4 : zop 45 4 = some (.aload_n 0, 1) := by decide +kernel
theorem o45_5 : zop 45 5 = some (.iload_n 1, 1) := by decide +kernel
theorem o45_6 : zop 45 6 = some (.invokevirtual 46, 3) := by decide +kernel
theorem o45_9 : zop 45 9 = some (.goto 69, 3) := by decide +kernel
theorem o45_12 : zop 45 12 = some (.iload_n 1, 1) := by decide +kernel
theorem o45_13 : zop 45 13 = some (.bipush (-6), 2) := by decide +kernel
theorem o45_15 : zop 45 15 = some (.if_icmp .lt 18, 3) := by decide +kernel
theorem o45_18 : zop 45 18 = some (.aload_n 0, 1) := by decide +kernel
theorem o45_19 : zop 45 19 = some (.aload_n 0, 1) := by decide +kernel
theorem o45_20 : zop 45 20 = some (.getfield 401, 3) := by decide +kernel
theorem o45_23 : zop 45 23 = some (.iconst (-1), 1) := by decide +kernel
theorem o45_24 : zop 45 24 = some (.iload_n 1, 1) := by decide +kernel
theorem o45_25 : zop 45 25 = some (.isub, 1) := by decide +kernel
theorem o45_26 : zop 45 26 = some (.iaload, 1) := by decide +kernel
theorem o45_27 : zop 45 27 = some (.invokevirtual 46, 3) := by decide +kernel
theorem o45_30 : zop 45 30 = some (.goto 48, 3) := by decide +kernel
theorem o45_33 : zop 45 33 = some (.iload_n 1, 1) := by decide +kernel
theorem o45_34 : zop 45 34 = some (.bipush (-13), 2) := by decide +kernel
theorem o45_36 : zop 45 36 = some (.if_icmp .ne 22, 3) := by decide +kernel
theorem o45_39 : zop 45 39 = some (.aload_n 0, 1) := by decide +kernel
theorem o45_40 : zop 45 40 = some (.aload_n 0, 1) := by decide +kernel
theorem o45_41 : zop 45 41 = some (.invokevirtual 47, 3) := by decide +kernel
theorem o45_44 : zop 45 44 = some (.ifCond .ne 7, 3) := by decide +kernel
theorem o45_47 : zop 45 47 = some (.iconst 1, 1) := by decide +kernel
theorem o45_48 : zop 45 48 = some (.goto 4, 3) := by decide +kernel
theorem o45_51 : zop 45 51 = some (.iconst 0, 1) := by decide +kernel
theorem o45_52 : zop 45 52 = some (.invokevirtual 46, 3) := by decide +kernel
theorem o45_55 : zop 45 55 = some (.goto 23, 3) := by decide +kernel
theorem o45_58 : zop 45 58 = some (.aload_n 0, 1) := by decide +kernel
theorem o45_59 : zop 45 59 = some (.invokevirtual 47, 3) := by decide +kernel
theorem o45_62 : zop 45 62 = some (.istore_n 2, 1) := by decide +kernel
theorem o45_63 : zop 45 63 = some (.aload_n 0, 1) := by decide +kernel
theorem o45_64 : zop 45 64 = some (.invokevirtual 47, 3) := by decide +kernel
theorem o45_67 : zop 45 67 = some (.istore_n 3, 1) := by decide +kernel
theorem o45_68 : zop 45 68 = some (.aload_n 0, 1) := by decide +kernel
theorem o45_69 : zop 45 69 = some (.iload_n 1, 1) := by decide +kernel
theorem o45_70 : zop 45 70 = some (.iload_n 3, 1) := by decide +kernel
theorem o45_71 : zop 45 71 = some (.iload_n 2, 1) := by decide +kernel
theorem o45_72 : zop 45 72 = some (.invokestatic 48, 3) := by decide +kernel
theorem o45_75 : zop 45 75 = some (.invokevirtual 46, 3) := by decide +kernel
theorem o45_78 : zop 45 78 = some (.return_, 1) := by decide +kernel
theorem o46_0 : zop 46 0 = some (.aload_n 0, 1) := by decide +kernel
theorem o46_1 : zop 46 1 = some (.getfield 404, 3) := by decide +kernel
theorem o46_4 : zop 46 4 = some (.bipush 40, 2) := by decide +kernel
theorem o46_6 : zop 46 6 = some (.if_icmp .ge 23, 3) := by decide +kernel
theorem o46_9 : zop 46 9 = some (.aload_n 0, 1) := by decide +kernel
theorem o46_10 : zop 46 10 = some (.getfield 402, 3) := by decide +kernel
theorem o46_13 : zop 46 13 = some (.aload_n 0, 1) := by decide +kernel
theorem o46_14 : zop 46 14 = some (.getfield 404, 3) := by decide +kernel
theorem o46_17 : zop 46 17 = some (.iload_n 1, 1) := by decide +kernel
theorem o46_18 : zop 46 18 = some (.iastore, 1) := by decide +kernel
theorem o46_19 : zop 46 19 = some (.aload_n 0, 1) := by decide +kernel
theorem o46_20 : zop 46 20 = some (.dup, 1) := by decide +kernel
theorem o46_21 : zop 46 21 = some (.getfield 404, 3) := by decide +kernel
theorem o46_24 : zop 46 24 = some (.iconst 1, 1) := by decide +kernel
theorem o46_25 : zop 46 25 = some (.iadd, 1) := by decide +kernel
theorem o46_26 : zop 46 26 = some (.putfield 404, 3) := by decide +kernel
theorem o46_29 : zop 46 29 = some (.return_, 1) := by decide +kernel
theorem o47_0 : zop 47 0 = some (.aload_n 0, 1) := by decide +kernel
theorem o47_1 : zop 47 1 = some (.getfield 404, 3) := by decide +kernel
theorem o47_4 : zop 47 4 = some (.ifCond .gt 5, 3) := by decide +kernel
theorem o47_7 : zop 47 7 = some (.iconst 0, 1) := by decide +kernel
theorem o47_8 : zop 47 8 = some (.ireturn, 1) := by decide +kernel
theorem o47_9 : zop 47 9 = some (.aload_n 0, 1) := by decide +kernel
theorem o47_10 : zop 47 10 = some (.dup, 1) := by decide +kernel
theorem o47_11 : zop 47 11 = some (.getfield 404, 3) := by decide +kernel
theorem o47_14 : zop 47 14 = some (.iconst 1, 1) := by decide +kernel
theorem o47_15 : zop 47 15 = some (.isub, 1) := by decide +kernel
theorem o47_16 : zop 47 16 = some (.putfield 404, 3) := by decide +kernel
theorem o47_19 : zop 47 19 = some (.aload_n 0, 1) := by decide +kernel
theorem o47_20 : zop 47 20 = some (.getfield 402, 3) := by decide +kernel
theorem o47_23 : zop 47 23 = some (.aload_n 0, 1) := by decide +kernel
theorem o47_24 : zop 47 24 = some (.getfield 404, 3) := by decide +kernel
theorem o47_27 : zop 47 27 = some (.iaload, 1) := by decide +kernel
theorem o47_28 : zop 47 28 = some (.ireturn, 1) := by decide +kernel
