theorem o93_0 : zop 93 0 = some (.aload_n 0, 1) := by decide +kernel
theorem o93_1 : zop 93 1 = some (.getfield 800, 3) := by decide +kernel
theorem o93_4 : zop 93 4 = some (.iload_n 1, 1) := by decide +kernel
theorem o93_5 : zop 93 5 = some (.invokevirtual 39, 3) := by decide +kernel
theorem o93_8 : zop 93 8 = some (.ifCond .ne 9, 3) := by decide +kernel
theorem o93_11 : zop 93 11 = some (.aload_n 0, 1) := by decide +kernel
theorem o93_12 : zop 93 12 = some (.iconst 1, 1) := by decide +kernel
theorem o93_13 : zop 93 13 = some (.invokevirtual 81, 3) := by decide +kernel
theorem o93_16 : zop 93 16 = some (.ireturn, 1) := by decide +kernel
theorem o93_17 : zop 93 17 = some (.aload_n 0, 1) := by decide +kernel
theorem o93_18 : zop 93 18 = some (.getfield 800, 3) := by decide +kernel
theorem o93_21 : zop 93 21 = some (.invokevirtual 34, 3) := by decide +kernel
theorem o93_24 : zop 93 24 = some (.iconst 1, 1) := by decide +kernel
theorem o93_25 : zop 93 25 = some (.ireturn, 1) := by decide +kernel
theorem o94_0 : zop 94 0 = some (.aload_n 0, 1) := by decide +kernel
theorem o94_1 : zop 94 1 = some (.getfield 800, 3) := by decide +kernel
theorem o94_4 : zop 94 4 = some (.ldc 6, 2) := by decide +kernel
theorem o94_6 : zop 94 6 = some (.invokevirtual 38, 3) := by decide +kernel
theorem o94_9 : zop 94 9 = some (.ifCond .eq 5, 3) := by decide +kernel
theorem o94_12 : zop 94 12 = some (.iconst (-1), 1) := by decide +kernel
theorem o94_13 : zop 94 13 = some (.ireturn, 1) := by decide +kernel
theorem o94_14 : zop 94 14 = some (.aload_n 0, 1) := by decide +kernel
theorem o94_15 : zop 94 15 = some (.getfield 800, 3) := by decide +kernel
theorem o94_18 : zop 94 18 = some (.ldc 7, 2) := by decide +kernel
theorem o94_20 : zop 94 20 = some (.invokevirtual 38, 3) := by decide +kernel
theorem o94_23 : zop 94 23 = some (.ifCond .eq 6, 3) := by decide +kernel
theorem o94_26 : zop 94 26 = some (.bipush (-2), 2) := by decide +kernel
theorem o94_28 : zop 94 28 = some (.ireturn, 1) := by decide +kernel
theorem o94_29 : zop 94 29 = some (.aload_n 0, 1) := by decide +kernel
theorem o94_30 : zop 94 30 = some (.getfield 800, 3) := by decide +kernel
theorem o94_33 : zop 94 33 = some (.ldc 8, 2) := by decide +kernel
theorem o94_35 : zop 94 35 = some (.invokevirtual 38, 3) := by decide +kernel
theorem o94_38 : zop 94 38 = some (.ifCond .eq 6, 3) := by decide +kernel
theorem o94_41 : zop 94 41 = some (.bipush (-3), 2) := by decide +kernel
theorem o94_43 : zop 94 43 = some (.ireturn, 1) := by decide +kernel
theorem o94_44 : zop 94 44 = some (.aload_n 0, 1) := by decide +kernel
theorem o94_45 : zop 94 45 = some (.getfield 800, 3) := by decide +kernel
theorem o94_48 : zop 94 48 = some (.ldc 9, 2) := by decide +kernel
theorem o94_50 : zop 94 50 = some (.invokevirtual 38, 3) := by decide +kernel
theorem o94_53 : zop 94 53 = some (.ifCond .eq 6, 3) := by decide +kernel
theorem o94_56 : zop 94 56 = some (.bipush (-4), 2) := by decide +kernel
theorem o94_58 : zop 94 58 = some (.ireturn, 1) := by decide +kernel
theorem o94_59 : zop 94 59 = some (.aload_n 0, 1) := by decide +kernel
theorem o94_60 : zop 94 60 = some (.getfield 800, 3) := by decide +kernel
theorem o94_63 : zop 94 63 = some (.ldc 10, 2) := by decide +kernel
theorem o94_65 : zop 94 65 = some (.invokevirtual 38, 3) := by decide +kernel
theorem o94_68 : zop 94 68 = some (.ifCond .eq 6, 3) := by decide +kernel
theorem o94_71 : zop 94 71 = some (.bipush (-5), 2) := by decide +kernel
theorem o94_73 : zop 94 73 = some (.ireturn, 1) := by decide +kernel
theorem o94_74 : zop 94 74 = some (.aload_n 0, 1) := by decide +kernel
theorem o94_75 : zop 94 75 = some (.getfield 800, 3) := by decide +kernel
theorem o94_78 : zop 94 78 = some (.ldc 11, 2) := by decide +kernel
theorem o94_80 : zop 94 80 = some (.invokevirtual 38, 3) := by decide +kernel
theorem o94_83 : zop 94 83 = some (.ifCond .eq 8, 3) := by decide +kernel
theorem o94_86 : zop 94 86 = some (.bipush (-6), 2) := by decide +kernel
theorem o94_88 : zop 94 88 = some (.goto 4, 3) := by decide +kernel
theorem o94_91 : zop 94 91 = some (.iconst 0, 1) := by decide +kernel
theorem o94_92 : zop 94 92 = some (.ireturn, 1) := by decide +kernel
theorem o95_0 : zop 95 0 = some (.aload_n 0, 1) := by decide +kernel
theorem o95_1 : zop 95 1 = some (.getfield 800, 3) := by decide +kernel
theorem o95_4 : zop 95 4 = some (.ldc 14, 2) := by decide +kernel
theorem o95_6 : zop 95 6 = some (.invokevirtual 38, 3) := by decide +kernel
theorem o95_9 : zop 95 9 = some (.ifCond .eq 5, 3) := by decide +kernel
theorem o95_12 : zop 95 12 = some (.iconst 0, 1) := by decide +kernel
theorem o95_13 : zop 95 13 = some (.ireturn, 1) := by decide +kernel
theorem o95_14 : zop 95 14 = some (.aload_n 0, 1) := by decide +kernel
theorem o95_15 : zop 95 15 = some (.getfield 800, 3) := by decide +kernel
theorem o95_18 : zop 95 18 = some (.ldc 15, 2) := by decide +kernel
theorem o95_20 : zop 95 20 = some (.invokevirtual 38, 3) := by decide +kernel
theorem o95_23 : zop 95 23 = some (.ifCond .eq 5, 3) := by decide +kernel
theorem o95_26 : zop 95 26 = some (.iconst 1, 1) := by decide +kernel
theorem o95_27 : zop 95 27 = some (.ireturn, 1) := by decide +kernel
theorem o95_28 : zop 95 28 = some (.aload_n 0, 1) := by decide +kernel
theorem o95_29 : zop 95 29 = some (.getfield 800, 3) := by decide +kernel
theorem o95_32 : zop 95 32 = some (.ldc 16, 2) := by decide +kernel
theorem o95_34 : zop 95 34 = some (.invokevirtual 38, 3) := by decide +kernel
theorem o95_37 : zop 95 37 = some (.ifCond .eq 5, 3) := by decide +kernel
theorem o95_40 : zop 95 40 = some (.iconst 2, 1) := by decide +kernel
theorem o95_41 : zop 95 41 = some (.ireturn, 1) := by decide +kernel
theorem o95_42 : zop 95 42 = some (.aload_n 0, 1) := by decide +kernel
theorem o95_43 : zop 95 43 = some (.getfield 800, 3) := by decide +kernel
theorem o95_46 : zop 95 46 = some (.ldc 17, 2) := by decide +kernel
theorem o95_48 : zop 95 48 = some (.invokevirtual 38, 3) := by decide +kernel
theorem o95_51 : zop 95 51 = some (.ifCond .eq 7, 3) := by decide +kernel
theorem o95_54 : zop 95 54 = some (.iconst 3, 1) := by decide +kernel
theorem o95_55 : zop 95 55 = some (.goto 4, 3) := by decide +kernel
theorem o95_58 : zop 95 58 = some (.iconst (-1), 1) := by decide +kernel
theorem o95_59 : zop 95 59 = some (.ireturn, 1) := by decide +kernel
theorem o96_0 : zop 96 0 = some (.iload_n 1, 1) := by decide +kernel
theorem o96_1 : zop 96 1 = some (.iconst (-1), 1) := by decide +kernel
theorem o96_2 : zop 96 2 = some (.if_icmp .ne 9, 3) := by decide +kernel
theorem o96_5 : zop 96 5 = some (.aload_n 0, 1) := by decide +kernel
theorem o96_6 : zop 96 6 = some (.iconst 1, 1) := by decide +kernel
theorem o96_7 : zop 96 7 = some (.invokevirtual 81, 3) := by decide +kernel
theorem o96_10 : zop 96 10 = some (.ireturn, 1) := by decide +kernel
theorem o96_11 : zop 96 11 = some (.aload_n 0, 1) := by decide +kernel
theorem o96_12 : zop 96 12 = some (.getfield 801, 3) := by decide +kernel
theorem o96_15 : zop 96 15 = some (.getfield 710, 3) := by decide +kernel
theorem o96_18 : zop 96 18 = some (.iconst 5, 1) := by decide +kernel
theorem o96_19 : zop 96 19 = some (.if_icmp .lt 9, 3) := by decide +kernel
theorem o96_22 : zop 96 22 = some (.aload_n 0, 1) := by decide +kernel
theorem o96_23 : zop 96 23 = some (.iconst 2, 1) := by decide +kernel
theorem o96_24 : zop 96 24 = some (.invokevirtual 81, 3) := by decide +kernel
theorem o96_27 : zop 96 27 = some (.ireturn, 1) := by decide +kernel
theorem o96_28 : zop 96 28 = some (.aload_n 0, 1) := by decide +kernel
theorem o96_29 : zop 96 29 = some (.getfield 800, 3) := by decide +kernel
theorem o96_32 : zop 96 32 = some (.invokevirtual 34, 3) := by decide +kernel
theorem o96_35 : zop 96 35 = some (.aload_n 0, 1) := by decide +kernel
theorem o96_36 : zop 96 36 = some (.iconst 1, 1) := by decide +kernel
theorem o96_37 : zop 96 37 = some (.bipush 8, 2) := by decide +kernel
theorem o96_39 : zop 96 39 = some (.invokevirtual 82, 3) := by decide +kernel
theorem o96_42 : zop 96 42 = some (.ifCond .ne 5, 3) := by decide +kernel
theorem o96_45 : zop 96 45 = some (.iconst 0, 1) := by decide +kernel
theorem o96_46 : zop 96 46 = some (.ireturn, 1) := by decide +kernel
theorem o96_47 : zop 96 47 = some (.aload_n 0, 1) := by decide +kernel
theorem o96_48 : zop 96 48 = some (.getfield 804, 3) := by decide +kernel
theorem o96_51 : zop 96 51 = some (.istore_n 2, 1) := by decide +kernel
theorem o96_52 : zop 96 52 = some (.aload_n 0, 1) := by decide +kernel
theorem o96_53 : zop 96 53 = some (.invokevirtual 84, 3) := by decide +kernel
theorem o96_56 : zop 96 56 = some (.ifCond .ne 5, 3) := by decide +kernel
theorem o96_59 : zop 96 59 = some (.iconst 0, 1) := by decide +kernel
theorem o96_60 : zop 96 60 = some (.ireturn, 1) := by decide +kernel
theorem o96_61 : zop 96 61 = some (.aload_n 0, 1) := by decide +kernel
theorem o96_62 : zop 96 62 = some (.getfield 801, 3) := by decide +kernel
theorem o96_65 : zop 96 65 = some (.iload_n 1, 1) := by decide +kernel
theorem o96_66 : zop 96 66 = some (.iload_n 2, 1) := by decide +kernel
theorem o96_67 : zop 96 67 = some (.aload_n 0, 1) := by decide +kernel
theorem o96_68 : zop 96 68 = some (.getfield 804, 3) := by decide +kernel
theorem o96_71 : zop 96 71 = some (.invokevirtual 75, 3) := by decide +kernel
theorem o96_74 : zop 96 74 = some (.iconst 1, 1) := by decide +kernel
theorem o96_75 : zop 96 75 = some (.ireturn, 1) := by decide +kernel
theorem o97_0 : zop 97 0 = some (.aload_n 0, 1) := by decide +kernel
theorem o97_1 : zop 97 1 = some (.invokespecial 1000, 3) := by decide +kernel
theorem o97_4 : zop 97 4 = some (.aload_n 0, 1) := by decide +kernel
theorem o97_5 : zop 97 5 = some (.new 8, 3) := by decide +kernel
theorem o97_8 : zop 97 8 = some (.dup, 1) := by decide +kernel
theorem o97_9 : zop 97 9 = some (.invokespecial 2077, 3) := by decide +kernel
theorem o97_12 : zop 97 12 = some (.putfield 900, 3) := by decide +kernel
theorem o97_15 : zop 97 15 = some (.aload_n 0, 1) := by decide +kernel
theorem o97_16 : zop 97 16 = some (.new 7, 3) := by decide +kernel
theorem o97_19 : zop 97 19 = some (.dup, 1) := by decide +kernel
theorem o97_20 : zop 97 20 = some (.invokespecial 2070, 3) := by decide +kernel
theorem o97_23 : zop 97 23 = some (.putfield 901, 3) := by decide +kernel
theorem o97_26 : zop 97 26 = some (.aload_n 0, 1) := by decide +kernel
theorem o97_27 : zop 97 27 = some (.new 1, 3) := by decide +kernel
theorem o97_30 : zop 97 30 = some (.dup, 1) := by decide +kernel
theorem o97_31 : zop 97 31 = some (.invokespecial 2008, 3) := by decide +kernel
theorem o97_34 : zop 97 34 = some (.putfield 902, 3) := by decide +kernel
theorem o97_37 : zop 97 37 = some (.aload_n 0, 1) := by decide +kernel
theorem o97_38 : zop 97 38 = some (.new 1, 3) := by decide +kernel
theorem o97_41 : zop 97 41 = some (.dup, 1) := by decide +kernel
theorem o97_42 : zop 97 42 = some (.invokespecial 2008, 3) := by decide +kernel
theorem o97_45 : zop 97 45 = some (.putfield 903, 3) := by decide +kernel
theorem o97_48 : zop 97 48 = some (.aload_n 0, 1) := by decide +kernel
theorem o97_49 : zop 97 49 = some (.new 0, 3) := by decide +kernel
theorem o97_52 : zop 97 52 = some (.dup, 1) := by decide +kernel
theorem o97_53 : zop 97 53 = some (.invokespecial 0, 3) := by decide +kernel
theorem o97_56 : zop 97 56 = some (.putfield 904, 3) := by decide +kernel
theorem o97_59 : zop 97 59 = some (.aload_n 0, 1) := by decide +kernel
theorem o97_60 : zop 97 60 = some (.iconst 4, 1) := by decide +kernel
theorem o97_61 : zop 97 61 = some (.newarray .int, 2) := by decide +kernel
theorem o97_63 : zop 97 63 = some (.putfield 905, 3) := by decide +kernel
theorem o97_66 : zop 97 66 = some (.aload_n 0, 1) := by decide +kernel
theorem o97_67 : zop 97 67 = some (.iconst 0, 1) := by decide +kernel
theorem o97_68 : zop 97 68 = some (.putfield 906, 3) := by decide +kernel
theorem o97_71 : zop 97 71 = some (.aload_n 0, 1) := by decide +kernel
theorem o97_72 : zop 97 72 = some (.iconst (-1), 1) := by decide +kernel
theorem o97_73 : zop 97 73 = some (.putfield 907, 3) := by decide +kernel
theorem o97_76 : zop 97 76 = some (.aload_n 0, 1) := by decide +kernel
theorem o97_77 : zop 97 77 = some (.iconst 0, 1) := by decide +kernel
theorem o97_78 : zop 97 78 = some (.putfield 908, 3) := by decide +kernel
theorem o97_81 : zop 97 81 = some (.return_, 1) := by decide +kernel
theorem o98_0 : zop 98 0 = some (.aload_n 0, 1) := by decide +kernel
theorem o98_1 : zop 98 1 = some (.getfield 900, 3) := by decide +kernel
theorem o98_4 : zop 98 4 = some (.getfield 800, 3) := by decide +kernel
theorem o98_7 : zop 98 7 = some (.astore 6, 2) := by decide +kernel
theorem o98_9 : zop 98 9 = some (.aload 6, 2) := by decide +kernel
theorem o98_11 : zop 98 11 = some (.getfield 301, 3) := by decide +kernel
theorem o98_14 : zop 98 14 = some (.sipush 580, 3) := by decide +kernel
theorem o98_17 : zop 98 17 = some (.if_icmp .le 5, 3) := by decide +kernel
theorem o98_20 : zop 98 20 = some (.iconst (-1), 1) := by decide +kernel
theorem o98_21 : zop 98 21 = some (.ireturn, 1) := by decide +kernel
theorem o98_22 : zop 98 22 = some (.aload 6, 2) := by decide +kernel
theorem o98_24 : zop 98 24 = some (.iload_n 1, 1) := by decide +kernel
theorem o98_25 : zop 98 25 = some (.invokevirtual 32, 3) := by decide +kernel
theorem o98_28 : zop 98 28 = some (.aload 6, 2) := by decide +kernel
theorem o98_30 : zop 98 30 = some (.iload_n 2, 1) := by decide +kernel
theorem o98_31 : zop 98 31 = some (.invokevirtual 32, 3) := by decide +kernel
theorem o98_34 : zop 98 34 = some (.aload 6, 2) := by decide +kernel
theorem o98_36 : zop 98 36 = some (.iload_n 3, 1) := by decide +kernel
theorem o98_37 : zop 98 37 = some (.invokevirtual 32, 3) := by decide +kernel
theorem o98_40 : zop 98 40 = some (.aload 6, 2) := by decide +kernel
theorem o98_42 : zop 98 42 = some (.iload 4, 2) := by decide +kernel
theorem o98_44 : zop 98 44 = some (.invokevirtual 32, 3) := by decide +kernel
theorem o98_47 : zop 98 47 = some (.aload 6, 2) := by decide +kernel
theorem o98_49 : zop 98 49 = some (.iload 5, 2) := by decide +kernel
theorem o98_51 : zop 98 51 = some (.invokevirtual 32, 3) := by decide +kernel
theorem o98_54 : zop 98 54 = some (.aload 6, 2) := by decide +kernel
theorem o98_56 : zop 98 56 = some (.getfield 301, 3) := by decide +kernel
theorem o98_59 : zop 98 59 = some (.ireturn, 1) := by decide +kernel
theorem o99_0 : zop 99 0 = some (.aload_n 0, 1) := by decide +kernel
theorem o99_1 : zop 99 1 = some (.getfield 907, 3) := by decide +kernel
theorem o99_4 : zop 99 4 = some (.ireturn, 1) := by decide +kernel
theorem o100_0 : zop 100 0 = some (.aload_n 0, 1) := by decide +kernel
theorem o100_1 : zop 100 1 = some (.getfield 902, 3) := by decide +kernel
theorem o100_4 : zop 100 4 = some (.getfield 101, 3) := by decide +kernel
theorem o100_7 : zop 100 7 = some (.getfield 600, 3) := by decide +kernel
theorem o100_10 : zop 100 10 = some (.aload_n 0, 1) := by decide +kernel
theorem o100_11 : zop 100 11 = some (.getfield 902, 3) := by decide +kernel
theorem o100_14 : zop 100 14 = some (.getfield 101, 3) := by decide +kernel
theorem o100_17 : zop 100 17 = some (.getfield 601, 3) := by decide +kernel
theorem o100_20 : zop 100 20 = some (.if_icmp .gt 5, 3) := by decide +kernel
theorem o100_23 : zop 100 23 = some (.iconst (-1), 1) := by decide +kernel
theorem o100_24 : zop 100 24 = some (.ireturn, 1) := by decide +kernel
theorem o100_25 : zop 100 25 = some (.aload_n 0, 1) := by decide +kernel
theorem o100_26 : zop 100 26 = some (.getfield 902, 3) := by decide +kernel
theorem o100_29 : zop 100 29 = some (.aload_n 0, 1) := by decide +kernel
theorem o100_30 : zop 100 30 = some (.getfield 901, 3) := by decide +kernel
theorem o100_33 : zop 100 33 = some (.invokevirtual 9, 3) := by decide +kernel
theorem o100_36 : zop 100 36 = some (.aload_n 0, 1) := by decide +kernel
theorem o100_37 : zop 100 37 = some (.getfield 902, 3) := by decide +kernel
theorem o100_40 : zop 100 40 = some (.getfield 101, 3) := by decide +kernel
theorem o100_43 : zop 100 43 = some (.getfield 600, 3) := by decide +kernel
theorem o100_46 : zop 100 46 = some (.ireturn, 1) := by decide +kernel
theorem o101_0 : zop 101 0 = some (.aload_n 0, 1) := by decide +kernel
theorem o101_1 : zop 101 1 = some (.getfield 902, 3) := by decide +kernel
theorem o101_4 : zop 101 4 = some (.iconst 0, 1) := by decide +kernel
theorem o101_5 : zop 101 5 = some (.putfield 109, 3) := by decide +kernel
theorem o101_8 : zop 101 8 = some (.aload_n 0, 1) := by decide +kernel
theorem o101_9 : zop 101 9 = some (.getfield 902, 3) := by decide +kernel
theorem o101_12 : zop 101 12 = some (.iconst 0, 1) := by decide +kernel
theorem o101_13 : zop 101 13 = some (.putfield 110, 3) := by decide +kernel
theorem o101_16 : zop 101 16 = some (.return_, 1) := by decide +kernel
theorem o102_0 : zop 102 0 = some (.aload_n 0, 1) := by decide +kernel
theorem o102_1 : zop 102 1 = some (.getfield 904, 3) := by decide +kernel
theorem o102_4 : zop 102 4 = some (.aload_n 0, 1) := by decide +kernel
theorem o102_5 : zop 102 5 = some (.getfield 901, 3) := by decide +kernel
theorem o102_8 : zop 102 8 = some (.aload_n 0, 1) := by decide +kernel
theorem o102_9 : zop 102 9 = some (.getfield 902, 3) := by decide +kernel
theorem o102_12 : zop 102 12 = some (.invokevirtual 1, 3) := by decide +kernel
theorem o102_15 : zop 102 15 = some (.istore_n 1, 1) := by decide +kernel
theorem o102_16 : zop 102 16 = some (.iload_n 1, 1) := by decide +kernel
theorem o102_17 : zop 102 17 = some (.ifCond .le 7, 3) := by decide +kernel
theorem o102_20 : zop 102 20 = some (.aload_n 0, 1) := by decide +kernel
theorem o102_21 : zop 102 21 = some (.invokevirtual 103, 3) := by decide +kernel
theorem o102_24 : zop 102 24 = some (.iload_n 1, 1) := by decide +kernel
theorem o102_25 : zop 102 25 = some (.ireturn, 1) := by decide +kernel
theorem o103_0 : zop 103 0 = some (.aload_n 0, 1) := by decide +kernel
theorem o103_1 : zop 103 1 = some (.getfield 904, 3) := by decide +kernel
theorem o103_4 : zop 103 4 = some (.getfield 0, 3) := by decide +kernel
theorem o103_7 : zop 103 7 = some (.iconst 0, 1) := by decide +kernel
theorem o103_8 : zop 103 8 = some (.aload_n 0, 1) := by decide +kernel
theorem o103_9 : zop 103 9 = some (.getfield 905, 3) := by decide +kernel
theorem o103_12 : zop 103 12 = some (.iconst 0, 1) := by decide +kernel
theorem o103_13 : zop 103 13 = some (.iconst 4, 1) := by decide +kernel
theorem o103_14 : zop 103 14 = some (.invokestatic 1003, 3) := by decide +kernel
theorem o103_17 : zop 103 17 = some (.aload_n 0, 1) := by decide +kernel
theorem o103_18 : zop 103 18 = some (.aload_n 0, 1) := by decide +kernel
theorem o103_19 : zop 103 19 = some (.getfield 902, 3) := by decide +kernel
theorem o103_22 : zop 103 22 = some (.getfield 109, 3) := by decide +kernel
theorem o103_25 : zop 103 25 = some (.putfield 908, 3) := by decide +kernel
theorem o103_28 : zop 103 28 = some (.return_, 1) := by decide +kernel
theorem o104_0 : zop 104 0 = some (.aload_n 0, 1) := by decide +kernel
theorem o104_1 : zop 104 1 = some (.getfield 903, 3) := by decide +kernel
theorem o104_4 : zop 104 4 = some (.aload_n 0, 1) := by decide +kernel
theorem o104_5 : zop 104 5 = some (.getfield 902, 3) := by decide +kernel
theorem o104_8 : zop 104 8 = some (.invokevirtual 11, 3) := by decide +kernel
theorem o104_11 : zop 104 11 = some (.aload_n 0, 1) := by decide +kernel
theorem o104_12 : zop 104 12 = some (.iconst 1, 1) := by decide +kernel
theorem o104_13 : zop 104 13 = some (.putfield 906, 3) := by decide +kernel
theorem o104_16 : zop 104 16 = some (.return_, 1) := by decide +kernel
theorem o105_0 : zop 105 0 = some (.aload_n 0, 1) := by decide +kernel
theorem o105_1 : zop 105 1 = some (.getfield 906, 3) := by decide +kernel
theorem o105_4 : zop 105 4 = some (.ifCond .eq 14, 3) := by decide +kernel
theorem o105_7 : zop 105 7 = some (.aload_n 0, 1) := by decide +kernel
theorem o105_8 : zop 105 8 = some (.getfield 902, 3) := by decide +kernel
theorem o105_11 : zop 105 11 = some (.aload_n 0, 1) := by decide +kernel
theorem o105_12 : zop 105 12 = some (.getfield 903, 3) := by decide +kernel
theorem o105_15 : zop 105 15 = some (.invokevirtual 11, 3) := by decide +kernel
theorem o105_18 : zop 105 18 = some (.aload_n 0, 1) := by decide +kernel
theorem o105_19 : zop 105 19 = some (.getfield 906, 3) := by decide +kernel
theorem o105_22 : zop 105 22 = some (.ireturn, 1) := by decide +kernel
theorem o106_0 : zop 106 0 = some (.iload_n 1, 1) := by decide +kernel
theorem o106_1 : zop 106 1 = some (.ifCond .lt 17, 3) := by decide +kernel
theorem o106_4 : zop 106 4 = some (.iload_n 1, 1) := by decide +kernel
theorem o106_5 : zop 106 5 = some (.aload_n 0, 1) := by decide +kernel
theorem o106_6 : zop 106 6 = some (.getfield 900, 3) := by decide +kernel
theorem o106_9 : zop 106 9 = some (.getfield 800, 3) := by decide +kernel
theorem o106_12 : zop 106 12 = some (.getfield 301, 3) := by decide +kernel
theorem o106_15 : zop 106 15 = some (.if_icmp .le 13, 3) := by decide +kernel
theorem o106_18 : zop 106 18 = some (.new 101, 3) := by decide +kernel
theorem o106_21 : zop 106 21 = some (.dup, 1) := by decide +kernel
theorem o106_22 : zop 106 22 = some (.ldc 0, 2) := by decide +kernel
theorem o106_24 : zop 106 24 = some (.invokespecial 1011, 3) := by decide +kernel
theorem o106_27 : zop 106 27 = some (.athrow, 1) := by decide +kernel
theorem o106_28 : zop 106 28 = some (.aload_n 0, 1) := by decide +kernel
theorem o106_29 : zop 106 29 = some (.getfield 900, 3) := by decide +kernel
theorem o106_32 : zop 106 32 = some (.iload_n 1, 1) := by decide +kernel
theorem o106_33 : zop 106 33 = some (.invokevirtual 78, 3) := by decide +kernel
theorem o106_36 : zop 106 36 = some (.istore_n 2, 1) := by decide +kernel
theorem o106_37 : zop 106 37 = some (.aload_n 0, 1) := by decide +kernel
theorem o106_38 : zop 106 38 = some (.getfield 900, 3) := by decide +kernel
theorem o106_41 : zop 106 41 = some (.getfield 800, 3) := by decide +kernel
theorem o106_44 : zop 106 44 = some (.iconst 0, 1) := by decide +kernel
theorem o106_45 : zop 106 45 = some (.putfield 301, 3) := by decide +kernel
theorem o106_48 : zop 106 48 = some (.iload_n 2, 1) := by decide +kernel
theorem o106_49 : zop 106 49 = some (.ifCond .ne 35, 3) := by decide +kernel
theorem o106_52 : zop 106 52 = some (.aload_n 0, 1) := by decide +kernel
theorem o106_53 : zop 106 53 = some (.aload_n 0, 1) := by decide +kernel
theorem o106_54 : zop 106 54 = some (.getfield 900, 3) := by decide +kernel
theorem o106_57 : zop 106 57 = some (.getfield 803, 3) := by decide +kernel
theorem o106_60 : zop 106 60 = some (.putfield 907, 3) := by decide +kernel
theorem o106_63 : zop 106 63 = some (.aload_n 0, 1) := by decide +kernel
theorem o106_64 : zop 106 64 = some (.getfield 902, 3) := by decide +kernel
theorem o106_67 : zop 106 67 = some (.getfield 108, 3) := by decide +kernel
theorem o106_70 : zop 106 70 = some (.iconst 0, 1) := by decide +kernel
theorem o106_71 : zop 106 71 = some (.dup2, 1) := by decide +kernel
theorem o106_72 : zop 106 72 = some (.iaload, 1) := by decide +kernel
theorem o106_73 : zop 106 73 = some (.iconst 1, 1) := by decide +kernel
theorem o106_74 : zop 106 74 = some (.iadd, 1) := by decide +kernel
theorem o106_75 : zop 106 75 = some (.iastore, 1) := by decide +kernel
theorem o106_76 : zop 106 76 = some (.aload_n 0, 1) := by decide +kernel
theorem o106_77 : zop 106 77 = some (.getfield 900, 3) := by decide +kernel
theorem o106_80 : zop 106 80 = some (.getfield 802, 3) := by decide +kernel
theorem o106_83 : zop 106 83 = some (.ireturn, 1) := by decide +kernel
theorem o106_84 : zop 106 84 = some (.aload_n 0, 1) := by decide +kernel
theorem o106_85 : zop 106 85 = some (.iconst (-1), 1) := by decide +kernel
theorem o106_86 : zop 106 86 = some (.putfield 907, 3) := by decide +kernel
theorem o106_89 : zop 106 89 = some (.aload_n 0, 1) := by decide +kernel
theorem o106_90 : zop 106 90 = some (.getfield 901, 3) := by decide +kernel
theorem o106_93 : zop 106 93 = some (.aload_n 0, 1) := by decide +kernel
theorem o106_94 : zop 106 94 = some (.getfield 900, 3) := by decide +kernel
theorem o106_97 : zop 106 97 = some (.getfield 801, 3) := by decide +kernel
theorem o106_100 : zop 106 100 = some (.invokevirtual 76, 3) := by decide +kernel
theorem o106_103 : zop 106 103 = some (.aload_n 0, 1) := by decide +kernel
theorem o106_104 : zop 106 104 = some (.getfield 902, 3) := by decide +kernel
theorem o106_107 : zop 106 107 = some (.aload_n 0, 1) := by decide +kernel
theorem o106_108 : zop 106 108 = some (.getfield 901, 3) := by decide +kernel
theorem o106_111 : zop 106 111 = some (.invokevirtual 12, 3) := by decide +kernel
theorem o106_114 : zop 106 114 = some (.aload_n 0, 1) := by decide +kernel
theorem o106_115 : zop 106 115 = some (.iconst 0, 1) := by decide +kernel
theorem o106_116 : zop 106 116 = some (.putfield 906, 3) := by decide +kernel
theorem o106_119 : zop 106 119 = some (.aload_n 0, 1) := by decide +kernel
theorem o106_120 : zop 106 120 = some (.iconst 0, 1) := by decide +kernel
theorem o106_121 : zop 106 121 = some (.putfield 908, 3) := by decide +kernel
theorem o106_124 : zop 106 124 = some (.iconst 0, 1) := by decide +kernel
theorem o106_125 : zop 106 125 = some (.ireturn, 1) := by decide +kernel
theorem o107_0 : zop 107 0 = some (.iload_n 1, 1) := by decide +kernel
theorem o107_1 : zop 107 1 = some (.tableswitch 181 0 11 #[63, 71, 79, 87, 98, 106, 114, 129, 140, 151, 161, 171], 63) := by decide +kernel
theorem o107_64 : zop 107 64 = some (.aload_n 0, 1) := by decide +kernel
theorem o107_65 : zop 107 65 = some (.getfield 901, 3) := by decide +kernel
theorem o107_68 : zop 107 68 = some (.getfield 708, 3) := by decide +kernel
theorem o107_71 : zop 107 71 = some (.ireturn, 1) := by decide +kernel
theorem o107_72 : zop 107 72 = some (.aload_n 0, 1) := by decide +kernel
theorem o107_73 : zop 107 73 = some (.getfield 901, 3) := by decide +kernel
theorem o107_76 : zop 107 76 = some (.getfield 709, 3) := by decide +kernel
theorem o107_79 : zop 107 79 = some (.ireturn, 1) := by decide +kernel
theorem o107_80 : zop 107 80 = some (.aload_n 0, 1) := by decide +kernel
theorem o107_81 : zop 107 81 = some (.getfield 901, 3) := by decide +kernel
theorem o107_84 : zop 107 84 = some (.getfield 710, 3) := by decide +kernel
theorem o107_87 : zop 107 87 = some (.ireturn, 1) := by decide +kernel
theorem o107_88 : zop 107 88 = some (.aload_n 0, 1) := by decide +kernel
theorem o107_89 : zop 107 89 = some (.getfield 902, 3) := by decide +kernel
theorem o107_92 : zop 107 92 = some (.getfield 101, 3) := by decide +kernel
theorem o107_95 : zop 107 95 = some (.getfield 600, 3) := by decide +kernel
theorem o107_98 : zop 107 98 = some (.ireturn, 1) := by decide +kernel
theorem o107_99 : zop 107 99 = some (.aload_n 0, 1) := by decide +kernel
theorem o107_100 : zop 107 100 = some (.getfield 902, 3) := by decide +kernel
theorem o107_103 : zop 107 103 = some (.getfield 109, 3) := by decide +kernel
theorem o107_106 : zop 107 106 = some (.ireturn, 1) := by decide +kernel
theorem o107_107 : zop 107 107 = some (.aload_n 0, 1) := by decide +kernel
theorem o107_108 : zop 107 108 = some (.getfield 902, 3) := by decide +kernel
theorem o107_111 : zop 107 111 = some (.getfield 110, 3) := by decide +kernel
theorem o107_114 : zop 107 114 = some (.ireturn, 1) := by decide +kernel
theorem o107_115 : zop 107 115 = some (.aload_n 0, 1) := by decide +kernel
theorem o107_116 : zop 107 116 = some (.getfield 902, 3) := by decide +kernel
theorem o107_119 : zop 107 119 = some (.getfield 100, 3) := by decide +kernel
theorem o107_122 : zop 107 122 = some (.aload_n 0, 1) := by decide +kernel
theorem o107_123 : zop 107 123 = some (.getfield 901, 3) := by decide +kernel
theorem o107_126 : zop 107 126 = some (.invokevirtual 20, 3) := by decide +kernel
theorem o107_129 : zop 107 129 = some (.ireturn, 1) := by decide +kernel
theorem o107_130 : zop 107 130 = some (.aload_n 0, 1) := by decide +kernel
theorem o107_131 : zop 107 131 = some (.getfield 902, 3) := by decide +kernel
theorem o107_134 : zop 107 134 = some (.getfield 101, 3) := by decide +kernel
theorem o107_137 : zop 107 137 = some (.invokevirtual 58, 3) := by decide +kernel
theorem o107_140 : zop 107 140 = some (.ireturn, 1) := by decide +kernel
theorem o107_141 : zop 107 141 = some (.aload_n 0, 1) := by decide +kernel
theorem o107_142 : zop 107 142 = some (.getfield 900, 3) := by decide +kernel
theorem o107_145 : zop 107 145 = some (.getfield 800, 3) := by decide +kernel
theorem o107_148 : zop 107 148 = some (.getfield 301, 3) := by decide +kernel
theorem o107_151 : zop 107 151 = some (.ireturn, 1) := by decide +kernel
theorem o107_152 : zop 107 152 = some (.aload_n 0, 1) := by decide +kernel
theorem o107_153 : zop 107 153 = some (.getfield 902, 3) := by decide +kernel
theorem o107_156 : zop 107 156 = some (.getfield 108, 3) := by decide +kernel
theorem o107_159 : zop 107 159 = some (.iconst 0, 1) := by decide +kernel
theorem o107_160 : zop 107 160 = some (.iaload, 1) := by decide +kernel
theorem o107_161 : zop 107 161 = some (.ireturn, 1) := by decide +kernel
theorem o107_162 : zop 107 162 = some (.aload_n 0, 1) := by decide +kernel
theorem o107_163 : zop 107 163 = some (.getfield 902, 3) := by decide +kernel
theorem o107_166 : zop 107 166 = some (.getfield 108, 3) := by decide +kernel
theorem o107_169 : zop 107 169 = some (.iconst 1, 1) := by decide +kernel
theorem o107_170 : zop 107 170 = some (.iaload, 1) := by decide +kernel
theorem o107_171 : zop 107 171 = some (.ireturn, 1) := by decide +kernel
theorem o107_172 : zop 107 172 = some (.aload_n 0, 1) := by decide +kernel
theorem o107_173 : zop 107 173 = some (.getfield 902, 3) := by decide +kernel
theorem o107_176 : zop 107 176 = some (.getfield 108, 3) := by decide +kernel
theorem o107_179 : zop 107 179 = some (.iconst 2, 1) := by decide +kernel
theorem o107_180 : zop 107 180 = some (.iaload, 1) := by decide +kernel
theorem o107_181 : zop 107 181 = some (.ireturn, 1) := by decide +kernel
theorem o107_182 : zop 107 182 = some (.new 100, 3) := by decide +kernel
theorem o107_185 : zop 107 185 = some (.dup, 1) := by decide +kernel
theorem o107_186 : zop 107 186 = some (.ldc 18, 2) := by decide +kernel
theorem o107_188 : zop 107 188 = some (.invokespecial 1010, 3) := by decide +kernel
theorem o107_191 : zop 107 191 = some (.athrow, 1) := by decide +kernel
theorem o108_0 : zop 108 0 = some (.aload_n 0, 1) := by decide +kernel
theorem o108_1 : zop 108 1 = some (.iload_n 1, 1) := by decide +kernel
theorem o108_2 : zop 108 2 = some (.invokevirtual 109, 3) := by decide +kernel
theorem o108_5 : zop 108 5 = some (.iload_n 2, 1) := by decide +kernel
theorem o108_6 : zop 108 6 = some (.tableswitch 112 0 5 #[38, 48, 58, 71, 87, 99], 38) := by decide +kernel
theorem o108_44 : zop 108 44 = some (.aload_n 0, 1) := by decide +kernel
theorem o108_45 : zop 108 45 = some (.getfield 901, 3) := by decide +kernel
theorem o108_48 : zop 108 48 = some (.getfield 700, 3) := by decide +kernel
theorem o108_51 : zop 108 51 = some (.iload_n 1, 1) := by decide +kernel
theorem o108_52 : zop 108 52 = some (.iaload, 1) := by decide +kernel
theorem o108_53 : zop 108 53 = some (.ireturn, 1) := by decide +kernel
theorem o108_54 : zop 108 54 = some (.aload_n 0, 1) := by decide +kernel
theorem o108_55 : zop 108 55 = some (.getfield 901, 3) := by decide +kernel
theorem o108_58 : zop 108 58 = some (.getfield 701, 3) := by decide +kernel
theorem o108_61 : zop 108 61 = some (.iload_n 1, 1) := by decide +kernel
theorem o108_62 : zop 108 62 = some (.iaload, 1) := by decide +kernel
theorem o108_63 : zop 108 63 = some (.ireturn, 1) := by decide +kernel
theorem o108_64 : zop 108 64 = some (.aload_n 0, 1) := by decide +kernel
theorem o108_65 : zop 108 65 = some (.getfield 902, 3) := by decide +kernel
theorem o108_68 : zop 108 68 = some (.getfield 100, 3) := by decide +kernel
theorem o108_71 : zop 108 71 = some (.getfield 200, 3) := by decide +kernel
theorem o108_74 : zop 108 74 = some (.iload_n 1, 1) := by decide +kernel
theorem o108_75 : zop 108 75 = some (.iaload, 1) := by decide +kernel
theorem o108_76 : zop 108 76 = some (.ireturn, 1) := by decide +kernel
theorem o108_77 : zop 108 77 = some (.aload_n 0, 1) := by decide +kernel
theorem o108_78 : zop 108 78 = some (.getfield 902, 3) := by decide +kernel
theorem o108_81 : zop 108 81 = some (.getfield 100, 3) := by decide +kernel
theorem o108_84 : zop 108 84 = some (.aload_n 0, 1) := by decide +kernel
theorem o108_85 : zop 108 85 = some (.getfield 901, 3) := by decide +kernel
theorem o108_88 : zop 108 88 = some (.iload_n 1, 1) := by decide +kernel
theorem o108_89 : zop 108 89 = some (.invokevirtual 19, 3) := by decide +kernel
theorem o108_92 : zop 108 92 = some (.ireturn, 1) := by decide +kernel
theorem o108_93 : zop 108 93 = some (.aload_n 0, 1) := by decide +kernel
theorem o108_94 : zop 108 94 = some (.getfield 902, 3) := by decide +kernel
theorem o108_97 : zop 108 97 = some (.getfield 101, 3) := by decide +kernel
theorem o108_100 : zop 108 100 = some (.iload_n 1, 1) := by decide +kernel
theorem o108_101 : zop 108 101 = some (.invokevirtual 59, 3) := by decide +kernel
theorem o108_104 : zop 108 104 = some (.ireturn, 1) := by decide +kernel
theorem o108_105 : zop 108 105 = some (.aload_n 0, 1) := by decide +kernel
theorem o108_106 : zop 108 106 = some (.getfield 902, 3) := by decide +kernel
theorem o108_109 : zop 108 109 = some (.getfield 100, 3) := by decide +kernel
theorem o108_112 : zop 108 112 = some (.iload_n 1, 1) := by decide +kernel
theorem o108_113 : zop 108 113 = some (.iload_n 1, 1) := by decide +kernel
theorem o108_114 : zop 108 114 = some (.invokevirtual 21, 3) := by decide +kernel
theorem o108_117 : zop 108 117 = some (.ireturn, 1) := by decide +kernel
theorem o108_118 : zop 108 118 = some (.new 100, 3) := by decide +kernel
theorem o108_121 : zop 108 121 = some (.dup, 1) := by decide +kernel
theorem o108_122 : zop 108 122 = some (.ldc 20, 2) := by decide +kernel
theorem o108_124 : zop 108 124 = some (.invokespecial 1010, 3) := by decide +kernel
theorem o108_127 : zop 108 127 = some (.athrow, 1) := by decide +kernel
theorem o109_0 : zop 109 0 = some (.iload_n 1, 1) := by decide +kernel
theorem o109_1 : zop 109 1 = some (.ifCond .lt 14, 3) := by decide +kernel
theorem o109_4 : zop 109 4 = some (.iload_n 1, 1) := by decide +kernel
theorem o109_5 : zop 109 5 = some (.aload_n 0, 1) := by decide +kernel
theorem o109_6 : zop 109 6 = some (.getfield 901, 3) := by decide +kernel
theorem o109_9 : zop 109 9 = some (.getfield 708, 3) := by decide +kernel
theorem o109_12 : zop 109 12 = some (.if_icmp .lt 14, 3) := by decide +kernel
theorem o109_15 : zop 109 15 = some (.new 100, 3) := by decide +kernel
theorem o109_18 : zop 109 18 = some (.dup, 1) := by decide +kernel
theorem o109_19 : zop 109 19 = some (.ldc_w 19, 3) := by decide +kernel
theorem o109_22 : zop 109 22 = some (.invokespecial 1010, 3) := by decide +kernel
theorem o109_25 : zop 109 25 = some (.athrow, 1) := by decide +kernel
theorem o109_26 : zop 109 26 = some (.return_, 1) := by decide +kernel
theorem o110_0 : zop 110 0 = some (.aload_n 0, 1) := by decide +kernel
theorem o110_1 : zop 110 1 = some (.iload_n 1, 1) := by decide +kernel
theorem o110_2 : zop 110 2 = some (.invokevirtual 111, 3) := by decide +kernel
theorem o110_5 : zop 110 5 = some (.iload_n 2, 1) := by decide +kernel
theorem o110_6 : zop 110 6 = some (.tableswitch 134 0 5 #[38, 48, 58, 84, 96, 118], 38) := by decide +kernel
theorem o110_44 : zop 110 44 = some (.aload_n 0, 1) := by decide +kernel
theorem o110_45 : zop 110 45 = some (.getfield 901, 3) := by decide +kernel
theorem o110_48 : zop 110 48 = some (.getfield 702, 3) := by decide +kernel
theorem o110_51 : zop 110 51 = some (.iload_n 1, 1) := by decide +kernel
theorem o110_52 : zop 110 52 = some (.iaload, 1) := by decide +kernel
theorem o110_53 : zop 110 53 = some (.ireturn, 1) := by decide +kernel
theorem o110_54 : zop 110 54 = some (.aload_n 0, 1) := by decide +kernel
theorem o110_55 : zop 110 55 = some (.getfield 901, 3) := by decide +kernel
theorem o110_58 : zop 110 58 = some (.getfield 703, 3) := by decide +kernel
theorem o110_61 : zop 110 61 = some (.iload_n 1, 1) := by decide +kernel
theorem o110_62 : zop 110 62 = some (.iaload, 1) := by decide +kernel
theorem o110_63 : zop 110 63 = some (.ireturn, 1) := by decide +kernel
theorem o110_64 : zop 110 64 = some (.aload_n 0, 1) := by decide +kernel
theorem o110_65 : zop 110 65 = some (.getfield 902, 3) := by decide +kernel
theorem o110_68 : zop 110 68 = some (.getfield 101, 3) := by decide +kernel
theorem o110_71 : zop 110 71 = some (.aload_n 0, 1) := by decide +kernel
theorem o110_72 : zop 110 72 = some (.getfield 901, 3) := by decide +kernel
theorem o110_75 : zop 110 75 = some (.iload_n 1, 1) := by decide +kernel
theorem o110_76 : zop 110 76 = some (.aload_n 0, 1) := by decide +kernel
theorem o110_77 : zop 110 77 = some (.getfield 902, 3) := by decide +kernel
theorem o110_80 : zop 110 80 = some (.getfield 101, 3) := by decide +kernel
theorem o110_83 : zop 110 83 = some (.getfield 600, 3) := by decide +kernel
theorem o110_86 : zop 110 86 = some (.invokevirtual 60, 3) := by decide +kernel
theorem o110_89 : zop 110 89 = some (.ireturn, 1) := by decide +kernel
theorem o110_90 : zop 110 90 = some (.aload_n 0, 1) := by decide +kernel
theorem o110_91 : zop 110 91 = some (.getfield 902, 3) := by decide +kernel
theorem o110_94 : zop 110 94 = some (.getfield 100, 3) := by decide +kernel
theorem o110_97 : zop 110 97 = some (.iload_n 1, 1) := by decide +kernel
theorem o110_98 : zop 110 98 = some (.invokevirtual 28, 3) := by decide +kernel
theorem o110_101 : zop 110 101 = some (.ireturn, 1) := by decide +kernel
theorem o110_102 : zop 110 102 = some (.aload_n 0, 1) := by decide +kernel
theorem o110_103 : zop 110 103 = some (.getfield 902, 3) := by decide +kernel
theorem o110_106 : zop 110 106 = some (.getfield 101, 3) := by decide +kernel
theorem o110_109 : zop 110 109 = some (.iload_n 1, 1) := by decide +kernel
theorem o110_110 : zop 110 110 = some (.aload_n 0, 1) := by decide +kernel
theorem o110_111 : zop 110 111 = some (.getfield 902, 3) := by decide +kernel
theorem o110_114 : zop 110 114 = some (.getfield 101, 3) := by decide +kernel
theorem o110_117 : zop 110 117 = some (.getfield 600, 3) := by decide +kernel
theorem o110_120 : zop 110 120 = some (.invokevirtual 61, 3) := by decide +kernel
theorem o110_123 : zop 110 123 = some (.ireturn, 1) := by decide +kernel
theorem o110_124 : zop 110 124 = some (.aload_n 0, 1) := by decide +kernel
theorem o110_125 : zop 110 125 = some (.getfield 902, 3) := by decide +kernel
theorem o110_128 : zop 110 128 = some (.getfield 101, 3) := by decide +kernel
theorem o110_131 : zop 110 131 = some (.aload_n 0, 1) := by decide +kernel
theorem o110_132 : zop 110 132 = some (.getfield 901, 3) := by decide +kernel
theorem o110_135 : zop 110 135 = some (.iload_n 1, 1) := by decide +kernel
theorem o110_136 : zop 110 136 = some (.invokevirtual 63, 3) := by decide +kernel
theorem o110_139 : zop 110 139 = some (.ireturn, 1) := by decide +kernel
theorem o110_140 : zop 110 140 = some (.new 100, 3) := by decide +kernel
theorem o110_143 : zop 110 143 = some (.dup, 1) := by decide +kernel
theorem o110_144 : zop 110 144 = some (.ldc 22, 2) := by decide +kernel
theorem o110_146 : zop 110 146 = some (.invokespecial 1010, 3) := by decide +kernel
theorem o110_149 : zop 110 149 = some (.athrow, 1) := by decide +kernel
theorem o111_0 : zop 111 0 = some (.iload_n 1, 1) := by decide +kernel
theorem o111_1 : zop 111 1 = some (.ifCond .lt 14, 3) := by decide +kernel
theorem o111_4 : zop 111 4 = some (.iload_n 1, 1) := by decide +kernel
theorem o111_5 : zop 111 5 = some (.aload_n 0, 1) := by decide +kernel
theorem o111_6 : zop 111 6 = some (.getfield 901, 3) := by decide +kernel
theorem o111_9 : zop 111 9 = some (.getfield 709, 3) := by decide +kernel
theorem o111_12 : zop 111 12 = some (.if_icmp .lt 14, 3) := by decide +kernel
theorem o111_15 : zop 111 15 = some (.new 100, 3) := by decide +kernel
theorem o111_18 : zop 111 18 = some (.dup, 1) := by decide +kernel
theorem o111_19 : zop 111 19 = some (.ldc_w 21, 3) := by decide +kernel
theorem o111_22 : zop 111 22 = some (.invokespecial 1010, 3) := by decide +kernel
theorem o111_25 : zop 111 25 = some (.athrow, 1) := by decide +kernel
theorem o111_26 : zop 111 26 = some (.return_, 1) := by decide +kernel
theorem o112_0 : zop 112 0 = some (.aload_n 0, 1) := by decide +kernel
theorem o112_1 : zop 112 1 = some (.iload_n 1, 1) := by decide +kernel
theorem o112_2 : zop 112 2 = some (.invokevirtual 109, 3) := by decide +kernel
theorem o112_5 : zop 112 5 = some (.iload_n 2, 1) := by decide +kernel
theorem o112_6 : zop 112 6 = some (.ifCond .lt 19, 3) := by decide +kernel
theorem o112_9 : zop 112 9 = some (.iload_n 2, 1) := by decide +kernel
theorem o112_10 : zop 112 10 = some (.aload_n 0, 1) := by decide +kernel
theorem o112_11 : zop 112 11 = some (.getfield 902, 3) := by decide +kernel
theorem o112_14 : zop 112 14 = some (.getfield 100, 3) := by decide +kernel
theorem o112_17 : zop 112 17 = some (.getfield 200, 3) := by decide +kernel
theorem o112_20 : zop 112 20 = some (.iload_n 1, 1) := by decide +kernel
theorem o112_21 : zop 112 21 = some (.iaload, 1) := by decide +kernel
theorem o112_22 : zop 112 22 = some (.if_icmp .lt 13, 3) := by decide +kernel
theorem o112_25 : zop 112 25 = some (.new 100, 3) := by decide +kernel
theorem o112_28 : zop 112 28 = some (.dup, 1) := by decide +kernel
theorem o112_29 : zop 112 29 = some (.ldc 23, 2) := by decide +kernel
theorem o112_31 : zop 112 31 = some (.invokespecial 1010, 3) := by decide +kernel
theorem o112_34 : zop 112 34 = some (.athrow, 1) := by decide +kernel
theorem o112_35 : zop 112 35 = some (.aload_n 0, 1) := by decide +kernel
theorem o112_36 : zop 112 36 = some (.getfield 902, 3) := by decide +kernel
theorem o112_39 : zop 112 39 = some (.getfield 100, 3) := by decide +kernel
theorem o112_42 : zop 112 42 = some (.iload_n 1, 1) := by decide +kernel
theorem o112_43 : zop 112 43 = some (.iload_n 2, 1) := by decide +kernel
theorem o112_44 : zop 112 44 = some (.invokevirtual 24, 3) := by decide +kernel
theorem o112_47 : zop 112 47 = some (.ireturn, 1) := by decide +kernel
theorem o113_0 : zop 113 0 = some (.aload_n 0, 1) := by decide +kernel
theorem o113_1 : zop 113 1 = some (.iload_n 1, 1) := by decide +kernel
theorem o113_2 : zop 113 2 = some (.invokevirtual 114, 3) := by decide +kernel
theorem o113_5 : zop 113 5 = some (.iload_n 2, 1) := by decide +kernel
theorem o113_6 : zop 113 6 = some (.tableswitch 70 0 3 #[30, 40, 50, 60], 30) := by decide +kernel
theorem o113_36 : zop 113 36 = some (.aload_n 0, 1) := by decide +kernel
theorem o113_37 : zop 113 37 = some (.getfield 901, 3) := by decide +kernel
theorem o113_40 : zop 113 40 = some (.getfield 704, 3) := by decide +kernel
theorem o113_43 : zop 113 43 = some (.iload_n 1, 1) := by decide +kernel
theorem o113_44 : zop 113 44 = some (.iaload, 1) := by decide +kernel
theorem o113_45 : zop 113 45 = some (.ireturn, 1) := by decide +kernel
theorem o113_46 : zop 113 46 = some (.aload_n 0, 1) := by decide +kernel
theorem o113_47 : zop 113 47 = some (.getfield 901, 3) := by decide +kernel
theorem o113_50 : zop 113 50 = some (.getfield 705, 3) := by decide +kernel
theorem o113_53 : zop 113 53 = some (.iload_n 1, 1) := by decide +kernel
theorem o113_54 : zop 113 54 = some (.iaload, 1) := by decide +kernel
theorem o113_55 : zop 113 55 = some (.ireturn, 1) := by decide +kernel
theorem o113_56 : zop 113 56 = some (.aload_n 0, 1) := by decide +kernel
theorem o113_57 : zop 113 57 = some (.getfield 901, 3) := by decide +kernel
theorem o113_60 : zop 113 60 = some (.getfield 706, 3) := by decide +kernel
theorem o113_63 : zop 113 63 = some (.iload_n 1, 1) := by decide +kernel
theorem o113_64 : zop 113 64 = some (.iaload, 1) := by decide +kernel
theorem o113_65 : zop 113 65 = some (.ireturn, 1) := by decide +kernel
theorem o113_66 : zop 113 66 = some (.aload_n 0, 1) := by decide +kernel
theorem o113_67 : zop 113 67 = some (.getfield 902, 3) := by decide +kernel
theorem o113_70 : zop 113 70 = some (.getfield 102, 3) := by decide +kernel
theorem o113_73 : zop 113 73 = some (.iload_n 1, 1) := by decide +kernel
theorem o113_74 : zop 113 74 = some (.iaload, 1) := by decide +kernel
theorem o113_75 : zop 113 75 = some (.ireturn, 1) := by decide +kernel
theorem o113_76 : zop 113 76 = some (.new 100, 3) := by decide +kernel
theorem o113_79 : zop 113 79 = some (.dup, 1) := by decide +kernel
theorem o113_80 : zop 113 80 = some (.ldc 25, 2) := by decide +kernel
theorem o113_82 : zop 113 82 = some (.invokespecial 1010, 3) := by decide +kernel
theorem o113_85 : zop 113 85 = some (.athrow, 1) := by decide +kernel
theorem o114_0 : zop 114 0 = some (.iload_n 1, 1) := by decide +kernel
theorem o114_1 : zop 114 1 = some (.ifCond .lt 14, 3) := by decide +kernel
theorem o114_4 : zop 114 4 = some (.iload_n 1, 1) := by decide +kernel
theorem o114_5 : zop 114 5 = some (.aload_n 0, 1) := by decide +kernel
theorem o114_6 : zop 114 6 = some (.getfield 901, 3) := by decide +kernel
theorem o114_9 : zop 114 9 = some (.getfield 710, 3) := by decide +kernel
theorem o114_12 : zop 114 12 = some (.if_icmp .lt 14, 3) := by decide +kernel
theorem o114_15 : zop 114 15 = some (.new 100, 3) := by decide +kernel
theorem o114_18 : zop 114 18 = some (.dup, 1) := by decide +kernel
theorem o114_19 : zop 114 19 = some (.ldc_w 24, 3) := by decide +kernel
theorem o114_22 : zop 114 22 = some (.invokespecial 1010, 3) := by decide +kernel
theorem o114_25 : zop 114 25 = some (.athrow, 1) := by decide +kernel
theorem o114_26 : zop 114 26 = some (.return_, 1) := by decide +kernel
theorem o115_0 : zop 115 0 = some (.aload_n 0, 1) := by decide +kernel
theorem o115_1 : zop 115 1 = some (.iload_n 1, 1) := by decide +kernel
theorem o115_2 : zop 115 2 = some (.invokevirtual 114, 3) := by decide +kernel
theorem o115_5 : zop 115 5 = some (.aload_n 0, 1) := by decide +kernel
theorem o115_6 : zop 115 6 = some (.iload_n 2, 1) := by decide +kernel
theorem o115_7 : zop 115 7 = some (.invokevirtual 109, 3) := by decide +kernel
theorem o115_10 : zop 115 10 = some (.iload_n 3, 1) := by decide +kernel
theorem o115_11 : zop 115 11 = some (.ifCond .lt 20, 3) := by decide +kernel
theorem o115_14 : zop 115 14 = some (.iload_n 3, 1) := by decide +kernel
theorem o115_15 : zop 115 15 = some (.aload_n 0, 1) := by decide +kernel
theorem o115_16 : zop 115 16 = some (.getfield 901, 3) := by decide +kernel
theorem o115_19 : zop 115 19 = some (.getfield 705, 3) := by decide +kernel
theorem o115_22 : zop 115 22 = some (.iload_n 1, 1) := by decide +kernel
theorem o115_23 : zop 115 23 = some (.iaload, 1) := by decide +kernel
theorem o115_24 : zop 115 24 = some (.if_icmp .gt 7, 3) := by decide +kernel
theorem o115_27 : zop 115 27 = some (.iconst 1, 1) := by decide +kernel
theorem o115_28 : zop 115 28 = some (.goto 4, 3) := by decide +kernel
theorem o115_31 : zop 115 31 = some (.iconst 0, 1) := by decide +kernel
theorem o115_32 : zop 115 32 = some (.istore 4, 2) := by decide +kernel
theorem o115_34 : zop 115 34 = some (.aload_n 0, 1) := by decide +kernel
theorem o115_35 : zop 115 35 = some (.getfield 902, 3) := by decide +kernel
theorem o115_38 : zop 115 38 = some (.getfield 101, 3) := by decide +kernel
theorem o115_41 : zop 115 41 = some (.getfield 600, 3) := by decide +kernel
theorem o115_44 : zop 115 44 = some (.bipush 30, 2) := by decide +kernel
theorem o115_46 : zop 115 46 = some (.if_icmp .ge 21, 3) := by decide +kernel
theorem o115_49 : zop 115 49 = some (.aload_n 0, 1) := by decide +kernel
theorem o115_50 : zop 115 50 = some (.getfield 902, 3) := by decide +kernel
theorem o115_53 : zop 115 53 = some (.getfield 102, 3) := by decide +kernel
theorem o115_56 : zop 115 56 = some (.iload_n 1, 1) := by decide +kernel
theorem o115_57 : zop 115 57 = some (.iaload, 1) := by decide +kernel
theorem o115_58 : zop 115 58 = some (.iload_n 2, 1) := by decide +kernel
theorem o115_59 : zop 115 59 = some (.if_icmp .eq 8, 3) := by decide +kernel
theorem o115_62 : zop 115 62 = some (.iload 4, 2) := by decide +kernel
theorem o115_64 : zop 115 64 = some (.ifCond .ne 18, 3) := by decide +kernel
theorem o115_67 : zop 115 67 = some (.aload_n 0, 1) := by decide +kernel
theorem o115_68 : zop 115 68 = some (.getfield 902, 3) := by decide +kernel
theorem o115_71 : zop 115 71 = some (.getfield 108, 3) := by decide +kernel
theorem o115_74 : zop 115 74 = some (.iconst 1, 1) := by decide +kernel
theorem o115_75 : zop 115 75 = some (.dup2, 1) := by decide +kernel
theorem o115_76 : zop 115 76 = some (.iaload, 1) := by decide +kernel
theorem o115_77 : zop 115 77 = some (.iconst 1, 1) := by decide +kernel
theorem o115_78 : zop 115 78 = some (.iadd, 1) := by decide +kernel
theorem o115_79 : zop 115 79 = some (.iastore, 1) := by decide +kernel
theorem o115_80 : zop 115 80 = some (.iconst (-1), 1) := by decide +kernel
theorem o115_81 : zop 115 81 = some (.ireturn, 1) := by decide +kernel
theorem o115_82 : zop 115 82 = some (.aload_n 0, 1) := by decide +kernel
theorem o115_83 : zop 115 83 = some (.getfield 902, 3) := by decide +kernel
theorem o115_86 : zop 115 86 = some (.aload_n 0, 1) := by decide +kernel
theorem o115_87 : zop 115 87 = some (.getfield 901, 3) := by decide +kernel
theorem o115_90 : zop 115 90 = some (.iload_n 1, 1) := by decide +kernel
theorem o115_91 : zop 115 91 = some (.iload_n 2, 1) := by decide +kernel
theorem o115_92 : zop 115 92 = some (.iload_n 3, 1) := by decide +kernel
theorem o115_93 : zop 115 93 = some (.invokevirtual 13, 3) := by decide +kernel
theorem o115_96 : zop 115 96 = some (.ireturn, 1) := by decide +kernel
theorem o116_0 : zop 116 0 = some (.iload_n 1, 1) := by decide +kernel
theorem o116_1 : zop 116 1 = some (.ifCond .lt 17, 3) := by decide +kernel
theorem o116_4 : zop 116 4 = some (.iload_n 1, 1) := by decide +kernel
theorem o116_5 : zop 116 5 = some (.aload_n 0, 1) := by decide +kernel
theorem o116_6 : zop 116 6 = some (.getfield 902, 3) := by decide +kernel
theorem o116_9 : zop 116 9 = some (.getfield 101, 3) := by decide +kernel
theorem o116_12 : zop 116 12 = some (.getfield 600, 3) := by decide +kernel
theorem o116_15 : zop 116 15 = some (.if_icmp .lt 13, 3) := by decide +kernel
theorem o116_18 : zop 116 18 = some (.new 100, 3) := by decide +kernel
theorem o116_21 : zop 116 21 = some (.dup, 1) := by decide +kernel
theorem o116_22 : zop 116 22 = some (.ldc 26, 2) := by decide +kernel
theorem o116_24 : zop 116 24 = some (.invokespecial 1010, 3) := by decide +kernel
theorem o116_27 : zop 116 27 = some (.athrow, 1) := by decide +kernel
theorem o116_28 : zop 116 28 = some (.iload_n 2, 1) := by decide +kernel
theorem o116_29 : zop 116 29 = some (.bipush 6, 2) := by decide +kernel
theorem o116_31 : zop 116 31 = some (.invokestatic 117, 3) := by decide +kernel
theorem o116_34 : zop 116 34 = some (.aload_n 0, 1) := by decide +kernel
theorem o116_35 : zop 116 35 = some (.getfield 902, 3) := by decide +kernel
theorem o116_38 : zop 116 38 = some (.getfield 101, 3) := by decide +kernel
theorem o116_41 : zop 116 41 = some (.iload_n 1, 1) := by decide +kernel
theorem o116_42 : zop 116 42 = some (.iload_n 2, 1) := by decide +kernel
theorem o116_43 : zop 116 43 = some (.invokevirtual 55, 3) := by decide +kernel
theorem o116_46 : zop 116 46 = some (.ireturn, 1) := by decide +kernel
theorem o117_0 : zop 117 0 = some (.iload_n 0, 1) := by decide +kernel
theorem o117_1 : zop 117 1 = some (.ifCond .lt 8, 3) := by decide +kernel
theorem o117_4 : zop 117 4 = some (.iload_n 0, 1) := by decide +kernel
theorem o117_5 : zop 117 5 = some (.iload_n 1, 1) := by decide +kernel
theorem o117_6 : zop 117 6 = some (.if_icmp .lt 14, 3) := by decide +kernel
theorem o117_9 : zop 117 9 = some (.new 100, 3) := by decide +kernel
theorem o117_12 : zop 117 12 = some (.dup, 1) := by decide +kernel
theorem o117_13 : zop 117 13 = some (.ldc_w 27, 3) := by decide +kernel
theorem o117_16 : zop 117 16 = some (.invokespecial 1010, 3) := by decide +kernel
theorem o117_19 : zop 117 19 = some (.athrow, 1) := by decide +kernel
theorem o117_20 : zop 117 20 = some (.return_, 1) := by decide +kernel
theorem o118_0 : zop 118 0 = some (.aload_n 0, 1) := by decide +kernel
theorem o118_1 : zop 118 1 = some (.iload_n 1, 1) := by decide +kernel
theorem o118_2 : zop 118 2 = some (.invokevirtual 109, 3) := by decide +kernel
theorem o118_5 : zop 118 5 = some (.aload_n 0, 1) := by decide +kernel
theorem o118_6 : zop 118 6 = some (.iload_n 2, 1) := by decide +kernel
theorem o118_7 : zop 118 7 = some (.invokevirtual 109, 3) := by decide +kernel
theorem o118_10 : zop 118 10 = some (.aload_n 0, 1) := by decide +kernel
theorem o118_11 : zop 118 11 = some (.getfield 902, 3) := by decide +kernel
theorem o118_14 : zop 118 14 = some (.getfield 101, 3) := by decide +kernel
theorem o118_17 : zop 118 17 = some (.iload_n 1, 1) := by decide +kernel
theorem o118_18 : zop 118 18 = some (.iload_n 2, 1) := by decide +kernel
theorem o118_19 : zop 118 19 = some (.invokevirtual 67, 3) := by decide +kernel
theorem o118_22 : zop 118 22 = some (.aload_n 0, 1) := by decide +kernel
theorem o118_23 : zop 118 23 = some (.getfield 902, 3) := by decide +kernel
theorem o118_26 : zop 118 26 = some (.getfield 101, 3) := by decide +kernel
theorem o118_29 : zop 118 29 = some (.iload_n 2, 1) := by decide +kernel
theorem o118_30 : zop 118 30 = some (.iload_n 1, 1) := by decide +kernel
theorem o118_31 : zop 118 31 = some (.invokevirtual 67, 3) := by decide +kernel
theorem o118_34 : zop 118 34 = some (.isub, 1) := by decide +kernel
theorem o118_35 : zop 118 35 = some (.ireturn, 1) := by decide +kernel
theorem o119_0 : zop 119 0 = some (.aload_n 0, 1) := by decide +kernel
theorem o119_1 : zop 119 1 = some (.iload_n 1, 1) := by decide +kernel
theorem o119_2 : zop 119 2 = some (.invokevirtual 111, 3) := by decide +kernel
theorem o119_5 : zop 119 5 = some (.aload_n 0, 1) := by decide +kernel
theorem o119_6 : zop 119 6 = some (.iload_n 2, 1) := by decide +kernel
theorem o119_7 : zop 119 7 = some (.invokevirtual 111, 3) := by decide +kernel
theorem o119_10 : zop 119 10 = some (.iload_n 1, 1) := by decide +kernel
theorem o119_11 : zop 119 11 = some (.iload_n 2, 1) := by decide +kernel
theorem o119_12 : zop 119 12 = some (.if_icmp .ne 7, 3) := by decide +kernel
theorem o119_15 : zop 119 15 = some (.iconst (-1), 1) := by decide +kernel
theorem o119_16 : zop 119 16 = some (.goto 19, 3) := by decide +kernel
theorem o119_19 : zop 119 19 = some (.aload_n 0, 1) := by decide +kernel
theorem o119_20 : zop 119 20 = some (.getfield 902, 3) := by decide +kernel
theorem o119_23 : zop 119 23 = some (.getfield 101, 3) := by decide +kernel
theorem o119_26 : zop 119 26 = some (.aload_n 0, 1) := by decide +kernel
theorem o119_27 : zop 119 27 = some (.getfield 901, 3) := by decide +kernel
theorem o119_30 : zop 119 30 = some (.iload_n 1, 1) := by decide +kernel
theorem o119_31 : zop 119 31 = some (.iload_n 2, 1) := by decide +kernel
theorem o119_32 : zop 119 32 = some (.invokevirtual 68, 3) := by decide +kernel
theorem o119_35 : zop 119 35 = some (.ireturn, 1) := by decide +kernel
theorem o120_0 : zop 120 0 = some (.aload_n 0, 1) := by decide +kernel
theorem o120_1 : zop 120 1 = some (.iload_n 1, 1) := by decide +kernel
theorem o120_2 : zop 120 2 = some (.invokevirtual 109, 3) := by decide +kernel
theorem o120_5 : zop 120 5 = some (.aload_n 0, 1) := by decide +kernel
theorem o120_6 : zop 120 6 = some (.iload_n 2, 1) := by decide +kernel
theorem o120_7 : zop 120 7 = some (.invokevirtual 109, 3) := by decide +kernel
theorem o120_10 : zop 120 10 = some (.aload_n 0, 1) := by decide +kernel
theorem o120_11 : zop 120 11 = some (.getfield 902, 3) := by decide +kernel
theorem o120_14 : zop 120 14 = some (.getfield 100, 3) := by decide +kernel
theorem o120_17 : zop 120 17 = some (.aload_n 0, 1) := by decide +kernel
theorem o120_18 : zop 120 18 = some (.getfield 901, 3) := by decide +kernel
theorem o120_21 : zop 120 21 = some (.iload_n 1, 1) := by decide +kernel
theorem o120_22 : zop 120 22 = some (.iload_n 2, 1) := by decide +kernel
theorem o120_23 : zop 120 23 = some (.invokevirtual 29, 3) := by decide +kernel
theorem o120_26 : zop 120 26 = some (.ireturn, 1) := by decide +kernel
theorem o121_0 : zop 121 0 = some (.aload_n 0, 1) := by decide +kernel
theorem o121_1 : zop 121 1 = some (.iload_n 1, 1) := by decide +kernel
theorem o121_2 : zop 121 2 = some (.invokevirtual 114, 3) := by decide +kernel
theorem o121_5 : zop 121 5 = some (.aload_n 0, 1) := by decide +kernel
theorem o121_6 : zop 121 6 = some (.iload_n 2, 1) := by decide +kernel
theorem o121_7 : zop 121 7 = some (.invokevirtual 109, 3) := by decide +kernel
theorem o121_10 : zop 121 10 = some (.aload_n 0, 1) := by decide +kernel
theorem o121_11 : zop 121 11 = some (.getfield 902, 3) := by decide +kernel
theorem o121_14 : zop 121 14 = some (.getfield 109, 3) := by decide +kernel
theorem o121_17 : zop 121 17 = some (.iconst 4, 1) := by decide +kernel
theorem o121_18 : zop 121 18 = some (.if_icmp .lt 18, 3) := by decide +kernel
theorem o121_21 : zop 121 21 = some (.aload_n 0, 1) := by decide +kernel
theorem o121_22 : zop 121 22 = some (.getfield 902, 3) := by decide +kernel
theorem o121_25 : zop 121 25 = some (.getfield 108, 3) := by decide +kernel
theorem o121_28 : zop 121 28 = some (.iconst 2, 1) := by decide +kernel
theorem o121_29 : zop 121 29 = some (.dup2, 1) := by decide +kernel
theorem o121_30 : zop 121 30 = some (.iaload, 1) := by decide +kernel
theorem o121_31 : zop 121 31 = some (.iconst 1, 1) := by decide +kernel
theorem o121_32 : zop 121 32 = some (.iadd, 1) := by decide +kernel
theorem o121_33 : zop 121 33 = some (.iastore, 1) := by decide +kernel
theorem o121_34 : zop 121 34 = some (.iconst (-1), 1) := by decide +kernel
theorem o121_35 : zop 121 35 = some (.ireturn, 1) := by decide +kernel
theorem o121_36 : zop 121 36 = some (.aload_n 0, 1) := by decide +kernel
theorem o121_37 : zop 121 37 = some (.getfield 902, 3) := by decide +kernel
theorem o121_40 : zop 121 40 = some (.iload_n 1, 1) := by decide +kernel
theorem o121_41 : zop 121 41 = some (.iload_n 2, 1) := by decide +kernel
theorem o121_42 : zop 121 42 = some (.invokevirtual 14, 3) := by decide +kernel
theorem o121_45 : zop 121 45 = some (.aload_n 0, 1) := by decide +kernel
theorem o121_46 : zop 121 46 = some (.getfield 902, 3) := by decide +kernel
theorem o121_49 : zop 121 49 = some (.getfield 109, 3) := by decide +kernel
theorem o121_52 : zop 121 52 = some (.ireturn, 1) := by decide +kernel
theorem o122_0 : zop 122 0 = some (.aload_n 0, 1) := by decide +kernel
theorem o122_1 : zop 122 1 = some (.iload_n 1, 1) := by decide +kernel
theorem o122_2 : zop 122 2 = some (.invokevirtual 109, 3) := by decide +kernel
theorem o122_5 : zop 122 5 = some (.aload_n 0, 1) := by decide +kernel
theorem o122_6 : zop 122 6 = some (.getfield 904, 3) := by decide +kernel
theorem o122_9 : zop 122 9 = some (.aload_n 0, 1) := by decide +kernel
theorem o122_10 : zop 122 10 = some (.getfield 901, 3) := by decide +kernel
theorem o122_13 : zop 122 13 = some (.aload_n 0, 1) := by decide +kernel
theorem o122_14 : zop 122 14 = some (.getfield 902, 3) := by decide +kernel
theorem o122_17 : zop 122 17 = some (.iload_n 1, 1) := by decide +kernel
theorem o122_18 : zop 122 18 = some (.invokevirtual 7, 3) := by decide +kernel
theorem o122_21 : zop 122 21 = some (.istore_n 2, 1) := by decide +kernel
theorem o122_22 : zop 122 22 = some (.iload_n 2, 1) := by decide +kernel
theorem o122_23 : zop 122 23 = some (.iconst (-1), 1) := by decide +kernel
theorem o122_24 : zop 122 24 = some (.if_icmp .eq 7, 3) := by decide +kernel
theorem o122_27 : zop 122 27 = some (.aload_n 0, 1) := by decide +kernel
theorem o122_28 : zop 122 28 = some (.invokevirtual 103, 3) := by decide +kernel
theorem o122_31 : zop 122 31 = some (.iload_n 2, 1) := by decide +kernel
theorem o122_32 : zop 122 32 = some (.ireturn, 1) := by decide +kernel
theorem o123_0 : zop 123 0 = some (.aload_n 0, 1) := by decide +kernel
theorem o123_1 : zop 123 1 = some (.iload_n 1, 1) := by decide +kernel
theorem o123_2 : zop 123 2 = some (.invokevirtual 109, 3) := by decide +kernel
theorem o123_5 : zop 123 5 = some (.aload_n 0, 1) := by decide +kernel
theorem o123_6 : zop 123 6 = some (.iload_n 2, 1) := by decide +kernel
theorem o123_7 : zop 123 7 = some (.invokevirtual 109, 3) := by decide +kernel
theorem o123_10 : zop 123 10 = some (.aload_n 0, 1) := by decide +kernel
theorem o123_11 : zop 123 11 = some (.getfield 902, 3) := by decide +kernel
theorem o123_14 : zop 123 14 = some (.getfield 110, 3) := by decide +kernel
theorem o123_17 : zop 123 17 = some (.bipush 10, 2) := by decide +kernel
theorem o123_19 : zop 123 19 = some (.if_icmp .ge 13, 3) := by decide +kernel
theorem o123_22 : zop 123 22 = some (.iload_n 3, 1) := by decide +kernel
theorem o123_23 : zop 123 23 = some (.ifCond .lt 9, 3) := by decide +kernel
theorem o123_26 : zop 123 26 = some (.iload_n 3, 1) := by decide +kernel
theorem o123_27 : zop 123 27 = some (.bipush 40, 2) := by decide +kernel
theorem o123_29 : zop 123 29 = some (.if_icmp .le 18, 3) := by decide +kernel
theorem o123_32 : zop 123 32 = some (.aload_n 0, 1) := by decide +kernel
theorem o123_33 : zop 123 33 = some (.getfield 902, 3) := by decide +kernel
theorem o123_36 : zop 123 36 = some (.getfield 108, 3) := by decide +kernel
theorem o123_39 : zop 123 39 = some (.iconst 2, 1) := by decide +kernel
theorem o123_40 : zop 123 40 = some (.dup2, 1) := by decide +kernel
theorem o123_41 : zop 123 41 = some (.iaload, 1) := by decide +kernel
theorem o123_42 : zop 123 42 = some (.iconst 1, 1) := by decide +kernel
theorem o123_43 : zop 123 43 = some (.iadd, 1) := by decide +kernel
theorem o123_44 : zop 123 44 = some (.iastore, 1) := by decide +kernel
theorem o123_45 : zop 123 45 = some (.iconst (-1), 1) := by decide +kernel
theorem o123_46 : zop 123 46 = some (.ireturn, 1) := by decide +kernel
theorem o123_47 : zop 123 47 = some (.aload_n 0, 1) := by decide +kernel
theorem o123_48 : zop 123 48 = some (.getfield 902, 3) := by decide +kernel
theorem o123_51 : zop 123 51 = some (.iload_n 1, 1) := by decide +kernel
theorem o123_52 : zop 123 52 = some (.iload_n 2, 1) := by decide +kernel
theorem o123_53 : zop 123 53 = some (.iload_n 3, 1) := by decide +kernel
theorem o123_54 : zop 123 54 = some (.invokevirtual 15, 3) := by decide +kernel
theorem o123_57 : zop 123 57 = some (.aload_n 0, 1) := by decide +kernel
theorem o123_58 : zop 123 58 = some (.getfield 902, 3) := by decide +kernel
theorem o123_61 : zop 123 61 = some (.getfield 110, 3) := by decide +kernel
theorem o123_64 : zop 123 64 = some (.ireturn, 1) := by decide +kernel
theorem o124_0 : zop 124 0 = some (.iload_n 1, 1) := by decide +kernel
theorem o124_1 : zop 124 1 = some (.ifCond .lt 16, 3) := by decide +kernel
theorem o124_4 : zop 124 4 = some (.iload_n 1, 1) := by decide +kernel
theorem o124_5 : zop 124 5 = some (.aload_n 0, 1) := by decide +kernel
theorem o124_6 : zop 124 6 = some (.getfield 908, 3) := by decide +kernel
theorem o124_9 : zop 124 9 = some (.if_icmp .ge 8, 3) := by decide +kernel
theorem o124_12 : zop 124 12 = some (.iload_n 1, 1) := by decide +kernel
theorem o124_13 : zop 124 13 = some (.iconst 4, 1) := by decide +kernel
theorem o124_14 : zop 124 14 = some (.if_icmp .lt 14, 3) := by decide +kernel
theorem o124_17 : zop 124 17 = some (.new 100, 3) := by decide +kernel
theorem o124_20 : zop 124 20 = some (.dup, 1) := by decide +kernel
theorem o124_21 : zop 124 21 = some (.ldc_w 28, 3) := by decide +kernel
theorem o124_24 : zop 124 24 = some (.invokespecial 1010, 3) := by decide +kernel
theorem o124_27 : zop 124 27 = some (.athrow, 1) := by decide +kernel
theorem o124_28 : zop 124 28 = some (.aload_n 0, 1) := by decide +kernel
theorem o124_29 : zop 124 29 = some (.getfield 905, 3) := by decide +kernel
theorem o124_32 : zop 124 32 = some (.iload_n 1, 1) := by decide +kernel
theorem o124_33 : zop 124 33 = some (.iaload, 1) := by decide +kernel
theorem o124_34 : zop 124 34 = some (.ireturn, 1) := by decide +kernel
theorem o125_0 : zop 125 0 = some (.aload_n 0, 1) := by decide +kernel
theorem o125_1 : zop 125 1 = some (.iload_n 1, 1) := by decide +kernel
theorem o125_2 : zop 125 2 = some (.invokevirtual 109, 3) := by decide +kernel
theorem o125_5 : zop 125 5 = some (.aload_n 0, 1) := by decide +kernel
theorem o125_6 : zop 125 6 = some (.iload_n 2, 1) := by decide +kernel
theorem o125_7 : zop 125 7 = some (.invokevirtual 114, 3) := by decide +kernel
theorem o125_10 : zop 125 10 = some (.iload 5, 2) := by decide +kernel
theorem o125_12 : zop 125 12 = some (.iconst 2, 1) := by decide +kernel
theorem o125_13 : zop 125 13 = some (.invokestatic 117, 3) := by decide +kernel
theorem o125_16 : zop 125 16 = some (.iload_n 3, 1) := by decide +kernel
theorem o125_17 : zop 125 17 = some (.ifCond .lt 24, 3) := by decide +kernel
theorem o125_20 : zop 125 20 = some (.iload 4, 2) := by decide +kernel
theorem o125_22 : zop 125 22 = some (.aload_n 0, 1) := by decide +kernel
theorem o125_23 : zop 125 23 = some (.getfield 902, 3) := by decide +kernel
theorem o125_26 : zop 125 26 = some (.getfield 101, 3) := by decide +kernel
theorem o125_29 : zop 125 29 = some (.getfield 600, 3) := by decide +kernel
theorem o125_32 : zop 125 32 = some (.if_icmp .gt 9, 3) := by decide +kernel
theorem o125_35 : zop 125 35 = some (.iload 4, 2) := by decide +kernel
theorem o125_37 : zop 125 37 = some (.iload_n 3, 1) := by decide +kernel
theorem o125_38 : zop 125 38 = some (.if_icmp .gt 14, 3) := by decide +kernel
theorem o125_41 : zop 125 41 = some (.new 101, 3) := by decide +kernel
theorem o125_44 : zop 125 44 = some (.dup, 1) := by decide +kernel
theorem o125_45 : zop 125 45 = some (.ldc_w 29, 3) := by decide +kernel
theorem o125_48 : zop 125 48 = some (.invokespecial 1011, 3) := by decide +kernel
theorem o125_51 : zop 125 51 = some (.athrow, 1) := by decide +kernel
theorem o125_52 : zop 125 52 = some (.iconst 0, 1) := by decide +kernel
theorem o125_53 : zop 125 53 = some (.istore 6, 2) := by decide +kernel
theorem o125_55 : zop 125 55 = some (.iconst 0, 1) := by decide +kernel
theorem o125_56 : zop 125 56 = some (.istore 7, 2) := by decide +kernel
theorem o125_58 : zop 125 58 = some (.iload_n 3, 1) := by decide +kernel
theorem o125_59 : zop 125 59 = some (.istore 8, 2) := by decide +kernel
theorem o125_61 : zop 125 61 = some (.iload 8, 2) := by decide +kernel
theorem o125_63 : zop 125 63 = some (.iload 4, 2) := by decide +kernel
theorem o125_65 : zop 125 65 = some (.if_icmp .ge 87, 3) := by decide +kernel
theorem o125_68 : zop 125 68 = some (.aload_n 0, 1) := by decide +kernel
theorem o125_69 : zop 125 69 = some (.getfield 902, 3) := by decide +kernel
theorem o125_72 : zop 125 72 = some (.getfield 101, 3) := by decide +kernel
theorem o125_75 : zop 125 75 = some (.iload 8, 2) := by decide +kernel
theorem o125_77 : zop 125 77 = some (.iload_n 1, 1) := by decide +kernel
theorem o125_78 : zop 125 78 = some (.invokevirtual 69, 3) := by decide +kernel
theorem o125_81 : zop 125 81 = some (.ifCond .eq 27, 3) := by decide +kernel
theorem o125_84 : zop 125 84 = some (.aload_n 0, 1) := by decide +kernel
theorem o125_85 : zop 125 85 = some (.getfield 901, 3) := by decide +kernel
theorem o125_88 : zop 125 88 = some (.getfield 701, 3) := by decide +kernel
theorem o125_91 : zop 125 91 = some (.aload_n 0, 1) := by decide +kernel
theorem o125_92 : zop 125 92 = some (.getfield 902, 3) := by decide +kernel
theorem o125_95 : zop 125 95 = some (.getfield 101, 3) := by decide +kernel
theorem o125_98 : zop 125 98 = some (.iload 8, 2) := by decide +kernel
theorem o125_100 : zop 125 100 = some (.iconst 2, 1) := by decide +kernel
theorem o125_101 : zop 125 101 = some (.invokevirtual 55, 3) := by decide +kernel
theorem o125_104 : zop 125 104 = some (.iaload, 1) := by decide +kernel
theorem o125_105 : zop 125 105 = some (.goto 4, 3) := by decide +kernel
theorem o125_108 : zop 125 108 = some (.iconst 0, 1) := by decide +kernel
theorem o125_109 : zop 125 109 = some (.istore 9, 2) := by decide +kernel
theorem o125_111 : zop 125 111 = some (.iload 6, 2) := by decide +kernel
theorem o125_113 : zop 125 113 = some (.iload 9, 2) := by decide +kernel
theorem o125_115 : zop 125 115 = some (.iadd, 1) := by decide +kernel
theorem o125_116 : zop 125 116 = some (.istore 6, 2) := by decide +kernel
theorem o125_118 : zop 125 118 = some (.iload 7, 2) := by decide +kernel
theorem o125_120 : zop 125 120 = some (.aload_n 0, 1) := by decide +kernel
theorem o125_121 : zop 125 121 = some (.getfield 902, 3) := by decide +kernel
theorem o125_124 : zop 125 124 = some (.getfield 101, 3) := by decide +kernel
theorem o125_127 : zop 125 127 = some (.iload 8, 2) := by decide +kernel
theorem o125_129 : zop 125 129 = some (.iconst 0, 1) := by decide +kernel
theorem o125_130 : zop 125 130 = some (.invokevirtual 55, 3) := by decide +kernel
theorem o125_133 : zop 125 133 = some (.iload_n 2, 1) := by decide +kernel
theorem o125_134 : zop 125 134 = some (.if_icmp .ne 8, 3) := by decide +kernel
theorem o125_137 : zop 125 137 = some (.iload 9, 2) := by decide +kernel
theorem o125_139 : zop 125 139 = some (.goto 4, 3) := by decide +kernel
theorem o125_142 : zop 125 142 = some (.iconst 0, 1) := by decide +kernel
theorem o125_143 : zop 125 143 = some (.iadd, 1) := by decide +kernel
theorem o125_144 : zop 125 144 = some (.istore 7, 2) := by decide +kernel
theorem o125_146 : zop 125 146 = some (.iinc 8 1, 3) := by decide +kernel
theorem o125_149 : zop 125 149 = some (.goto (-88), 3) := by decide +kernel
theorem o125_152 : zop 125 152 = some (.iload 7, 2) := by decide +kernel
theorem o125_154 : zop 125 154 = some (.iload 6, 2) := by decide +kernel
theorem o125_156 : zop 125 156 = some (.iload 5, 2) := by decide +kernel
theorem o125_158 : zop 125 158 = some (.invokestatic 126, 3) := by decide +kernel
theorem o125_161 : zop 125 161 = some (.ireturn, 1) := by decide +kernel
theorem o126_0 : zop 126 0 = some (.iload_n 0, 1) := by decide +kernel
theorem o126_1 : zop 126 1 = some (.ifCond .gt 5, 3) := by decide +kernel
theorem o126_4 : zop 126 4 = some (.iload_n 2, 1) := by decide +kernel
theorem o126_5 : zop 126 5 = some (.ireturn, 1) := by decide +kernel
theorem o126_6 : zop 126 6 = some (.iload_n 1, 1) := by decide +kernel
theorem o126_7 : zop 126 7 = some (.iload_n 0, 1) := by decide +kernel
theorem o126_8 : zop 126 8 = some (.invokestatic 127, 3) := by decide +kernel
theorem o126_11 : zop 126 11 = some (.istore_n 3, 1) := by decide +kernel
theorem o126_12 : zop 126 12 = some (.iload_n 2, 1) := by decide +kernel
theorem o126_13 : zop 126 13 = some (.ifCond .ne 7, 3) := by decide +kernel
theorem o126_16 : zop 126 16 = some (.iload_n 0, 1) := by decide +kernel
theorem o126_17 : zop 126 17 = some (.goto 4, 3) := by decide +kernel
theorem o126_20 : zop 126 20 = some (.iload_n 1, 1) := by decide +kernel
theorem o126_21 : zop 126 21 = some (.iconst 1, 1) := by decide +kernel
theorem o126_22 : zop 126 22 = some (.iload_n 3, 1) := by decide +kernel
theorem o126_23 : zop 126 23 = some (.invokestatic 1002, 3) := by decide +kernel
theorem o126_26 : zop 126 26 = some (.idiv, 1) := by decide +kernel
theorem o126_27 : zop 126 27 = some (.ireturn, 1) := by decide +kernel
theorem o127_0 : zop 127 0 = some (.iload_n 0, 1) := by decide +kernel
theorem o127_1 : zop 127 1 = some (.istore_n 2, 1) := by decide +kernel
theorem o127_2 : zop 127 2 = some (.iload_n 1, 1) := by decide +kernel
theorem o127_3 : zop 127 3 = some (.istore_n 3, 1) := by decide +kernel
theorem o127_4 : zop 127 4 = some (.iconst 0, 1) := by decide +kernel
theorem o127_5 : zop 127 5 = some (.istore 4, 2) := by decide +kernel
theorem o127_7 : zop 127 7 = some (.iload 4, 2) := by decide +kernel
theorem o127_9 : zop 127 9 = some (.bipush 64, 2) := by decide +kernel
theorem o127_11 : zop 127 11 = some (.if_icmp .ge 23, 3) := by decide +kernel
theorem o127_14 : zop 127 14 = some (.iload_n 3, 1) := by decide +kernel
theorem o127_15 : zop 127 15 = some (.ifCond .le 19, 3) := by decide +kernel
theorem o127_18 : zop 127 18 = some (.iload_n 2, 1) := by decide +kernel
theorem o127_19 : zop 127 19 = some (.iload_n 3, 1) := by decide +kernel
theorem o127_20 : zop 127 20 = some (.irem, 1) := by decide +kernel
theorem o127_21 : zop 127 21 = some (.istore 5, 2) := by decide +kernel
theorem o127_23 : zop 127 23 = some (.iload_n 3, 1) := by decide +kernel
theorem o127_24 : zop 127 24 = some (.istore_n 2, 1) := by decide +kernel
theorem o127_25 : zop 127 25 = some (.iload 5, 2) := by decide +kernel
theorem o127_27 : zop 127 27 = some (.istore_n 3, 1) := by decide +kernel
theorem o127_28 : zop 127 28 = some (.iinc 4 1, 3) := by decide +kernel
theorem o127_31 : zop 127 31 = some (.goto (-24), 3) := by decide +kernel
theorem o127_34 : zop 127 34 = some (.iload_n 2, 1) := by decide +kernel
theorem o127_35 : zop 127 35 = some (.ireturn, 1) := by decide +kernel
theorem o128_0 : zop 128 0 = some (.aload_n 0, 1) := by decide +kernel
theorem o128_1 : zop 128 1 = some (.iload_n 1, 1) := by decide +kernel
theorem o128_2 : zop 128 2 = some (.invokevirtual 109, 3) := by decide +kernel
theorem o128_5 : zop 128 5 = some (.iload_n 3, 1) := by decide +kernel
theorem o128_6 : zop 128 6 = some (.ifCond .lt 9, 3) := by decide +kernel
theorem o128_9 : zop 128 9 = some (.iload_n 3, 1) := by decide +kernel
theorem o128_10 : zop 128 10 = some (.bipush 60, 2) := by decide +kernel
theorem o128_12 : zop 128 12 = some (.if_icmp .le 14, 3) := by decide +kernel
theorem o128_15 : zop 128 15 = some (.new 101, 3) := by decide +kernel
theorem o128_18 : zop 128 18 = some (.dup, 1) := by decide +kernel
theorem o128_19 : zop 128 19 = some (.ldc_w 30, 3) := by decide +kernel
theorem o128_22 : zop 128 22 = some (.invokespecial 1011, 3) := by decide +kernel
theorem o128_25 : zop 128 25 = some (.athrow, 1) := by decide +kernel
theorem o128_26 : zop 128 26 = some (.iload_n 3, 1) := by decide +kernel
theorem o128_27 : zop 128 27 = some (.ifCond .le 23, 3) := by decide +kernel
theorem o128_30 : zop 128 30 = some (.aload_n 0, 1) := by decide +kernel
theorem o128_31 : zop 128 31 = some (.getfield 902, 3) := by decide +kernel
theorem o128_34 : zop 128 34 = some (.getfield 101, 3) := by decide +kernel
theorem o128_37 : zop 128 37 = some (.aload_n 0, 1) := by decide +kernel
theorem o128_38 : zop 128 38 = some (.getfield 902, 3) := by decide +kernel
theorem o128_41 : zop 128 41 = some (.getfield 101, 3) := by decide +kernel
theorem o128_44 : zop 128 44 = some (.getfield 600, 3) := by decide +kernel
theorem o128_47 : zop 128 47 = some (.putfield 601, 3) := by decide +kernel
theorem o128_50 : zop 128 50 = some (.aload_n 0, 1) := by decide +kernel
theorem o128_51 : zop 128 51 = some (.getfield 902, 3) := by decide +kernel
theorem o128_54 : zop 128 54 = some (.getfield 100, 3) := by decide +kernel
theorem o128_57 : zop 128 57 = some (.iload_n 1, 1) := by decide +kernel
theorem o128_58 : zop 128 58 = some (.iload_n 2, 1) := by decide +kernel
theorem o128_59 : zop 128 59 = some (.iload_n 3, 1) := by decide +kernel
theorem o128_60 : zop 128 60 = some (.invokevirtual 30, 3) := by decide +kernel
theorem o128_63 : zop 128 63 = some (.aload_n 0, 1) := by decide +kernel
theorem o128_64 : zop 128 64 = some (.getfield 902, 3) := by decide +kernel
theorem o128_67 : zop 128 67 = some (.getfield 100, 3) := by decide +kernel
theorem o128_70 : zop 128 70 = some (.getfield 200, 3) := by decide +kernel
theorem o128_73 : zop 128 73 = some (.iload_n 1, 1) := by decide +kernel
theorem o128_74 : zop 128 74 = some (.iaload, 1) := by decide +kernel
theorem o128_75 : zop 128 75 = some (.ifCond .le 18, 3) := by decide +kernel
theorem o128_78 : zop 128 78 = some (.aload_n 0, 1) := by decide +kernel
theorem o128_79 : zop 128 79 = some (.getfield 902, 3) := by decide +kernel
theorem o128_82 : zop 128 82 = some (.getfield 100, 3) := by decide +kernel
theorem o128_85 : zop 128 85 = some (.iload_n 1, 1) := by decide +kernel
theorem o128_86 : zop 128 86 = some (.iconst 0, 1) := by decide +kernel
theorem o128_87 : zop 128 87 = some (.invokevirtual 24, 3) := by decide +kernel
theorem o128_90 : zop 128 90 = some (.goto 4, 3) := by decide +kernel
theorem o128_93 : zop 128 93 = some (.iconst (-1), 1) := by decide +kernel
theorem o128_94 : zop 128 94 = some (.ireturn, 1) := by decide +kernel
theorem o129_0 : zop 129 0 = some (.aload_n 0, 1) := by decide +kernel
theorem o129_1 : zop 129 1 = some (.invokespecial 1000, 3) := by decide +kernel
theorem o129_4 : zop 129 4 = some (.aload_n 0, 1) := by decide +kernel
theorem o129_5 : zop 129 5 = some (.iconst 4, 1) := by decide +kernel
theorem o129_6 : zop 129 6 = some (.anewarray 12, 3) := by decide +kernel
theorem o129_9 : zop 129 9 = some (.dup, 1) := by decide +kernel
theorem o129_10 : zop 129 10 = some (.iconst 0, 1) := by decide +kernel
theorem o129_11 : zop 129 11 = some (.ldc 31, 2) := by decide +kernel
theorem o129_13 : zop 129 13 = some (.aastore, 1) := by decide +kernel
theorem o129_14 : zop 129 14 = some (.dup, 1) := by decide +kernel
theorem o129_15 : zop 129 15 = some (.iconst 1, 1) := by decide +kernel
theorem o129_16 : zop 129 16 = some (.ldc 32, 2) := by decide +kernel
theorem o129_18 : zop 129 18 = some (.aastore, 1) := by decide +kernel
theorem o129_19 : zop 129 19 = some (.dup, 1) := by decide +kernel
theorem o129_20 : zop 129 20 = some (.iconst 2, 1) := by decide +kernel
theorem o129_21 : zop 129 21 = some (.ldc 33, 2) := by decide +kernel
theorem o129_23 : zop 129 23 = some (.aastore, 1) := by decide +kernel
theorem o129_24 : zop 129 24 = some (.dup, 1) := by decide +kernel
theorem o129_25 : zop 129 25 = some (.iconst 3, 1) := by decide +kernel
theorem o129_26 : zop 129 26 = some (.ldc 34, 2) := by decide +kernel
theorem o129_28 : zop 129 28 = some (.aastore, 1) := by decide +kernel
theorem o129_29 : zop 129 29 = some (.putfield 1000, 3) := by decide +kernel
theorem o129_32 : zop 129 32 = some (.aload_n 0, 1) := by decide +kernel
theorem o129_33 : zop 129 33 = some (.bipush 6, 2) := by decide +kernel
theorem o129_35 : zop 129 35 = some (.anewarray 12, 3) := by decide +kernel
theorem o129_38 : zop 129 38 = some (.dup, 1) := by decide +kernel
theorem o129_39 : zop 129 39 = some (.iconst 0, 1) := by decide +kernel
theorem o129_40 : zop 129 40 = some (.ldc 35, 2) := by decide +kernel
theorem o129_42 : zop 129 42 = some (.aastore, 1) := by decide +kernel
theorem o129_43 : zop 129 43 = some (.dup, 1) := by decide +kernel
theorem o129_44 : zop 129 44 = some (.iconst 1, 1) := by decide +kernel
theorem o129_45 : zop 129 45 = some (.ldc 36, 2) := by decide +kernel
theorem o129_47 : zop 129 47 = some (.aastore, 1) := by decide +kernel
theorem o129_48 : zop 129 48 = some (.dup, 1) := by decide +kernel
theorem o129_49 : zop 129 49 = some (.iconst 2, 1) := by decide +kernel
theorem o129_50 : zop 129 50 = some (.ldc 37, 2) := by decide +kernel
theorem o129_52 : zop 129 52 = some (.aastore, 1) := by decide +kernel
theorem o129_53 : zop 129 53 = some (.dup, 1) := by decide +kernel
theorem o129_54 : zop 129 54 = some (.iconst 3, 1) := by decide +kernel
theorem o129_55 : zop 129 55 = some (.ldc 38, 2) := by decide +kernel
theorem o129_57 : zop 129 57 = some (.aastore, 1) := by decide +kernel
theorem o129_58 : zop 129 58 = some (.dup, 1) := by decide +kernel
theorem o129_59 : zop 129 59 = some (.iconst 4, 1) := by decide +kernel
theorem o129_60 : zop 129 60 = some (.ldc 39, 2) := by decide +kernel
theorem o129_62 : zop 129 62 = some (.aastore, 1) := by decide +kernel
theorem o129_63 : zop 129 63 = some (.dup, 1) := by decide +kernel
theorem o129_64 : zop 129 64 = some (.iconst 5, 1) := by decide +kernel
theorem o129_65 : zop 129 65 = some (.ldc 40, 2) := by decide +kernel
theorem o129_67 : zop 129 67 = some (.aastore, 1) := by decide +kernel
theorem o129_68 : zop 129 68 = some (.putfield 1001, 3) := by decide +kernel
theorem o129_71 : zop 129 71 = some (.aload_n 0, 1) := by decide +kernel
theorem o129_72 : zop 129 72 = some (.bipush 8, 2) := by decide +kernel
theorem o129_74 : zop 129 74 = some (.newarray .int, 2) := by decide +kernel
theorem o129_76 : zop 129 76 = some (.putfield 1003, 3) := by decide +kernel
theorem o129_79 : zop 129 79 = some (.aload_n 0, 1) := by decide +kernel
theorem o129_80 : zop 129 80 = some (.bipush 12, 2) := by decide +kernel
theorem o129_82 : zop 129 82 = some (.newarray .int, 2) := by decide +kernel
theorem o129_84 : zop 129 84 = some (.putfield 1004, 3) := by decide +kernel
theorem o129_87 : zop 129 87 = some (.aload_n 0, 1) := by decide +kernel
theorem o129_88 : zop 129 88 = some (.bipush 12, 2) := by decide +kernel
theorem o129_90 : zop 129 90 = some (.newarray .int, 2) := by decide +kernel
theorem o129_92 : zop 129 92 = some (.putfield 1005, 3) := by decide +kernel
theorem o129_95 : zop 129 95 = some (.aload_n 0, 1) := by decide +kernel
theorem o129_96 : zop 129 96 = some (.bipush 80, 2) := by decide +kernel
theorem o129_98 : zop 129 98 = some (.newarray .int, 2) := by decide +kernel
theorem o129_100 : zop 129 100 = some (.putfield 1006, 3) := by decide +kernel
theorem o129_103 : zop 129 103 = some (.aload_n 0, 1) := by decide +kernel
theorem o129_104 : zop 129 104 = some (.bipush 80, 2) := by decide +kernel
theorem o129_106 : zop 129 106 = some (.newarray .int, 2) := by decide +kernel
theorem o129_108 : zop 129 108 = some (.putfield 1007, 3) := by decide +kernel
theorem o129_111 : zop 129 111 = some (.aload_n 0, 1) := by decide +kernel
theorem o129_112 : zop 129 112 = some (.bipush 10, 2) := by decide +kernel
theorem o129_114 : zop 129 114 = some (.newarray .int, 2) := by decide +kernel
theorem o129_116 : zop 129 116 = some (.putfield 1008, 3) := by decide +kernel
theorem o129_119 : zop 129 119 = some (.aload_n 0, 1) := by decide +kernel
theorem o129_120 : zop 129 120 = some (.bipush 10, 2) := by decide +kernel
theorem o129_122 : zop 129 122 = some (.newarray .int, 2) := by decide +kernel
theorem o129_124 : zop 129 124 = some (.putfield 1009, 3) := by decide +kernel
theorem o129_127 : zop 129 127 = some (.aload_n 0, 1) := by decide +kernel
theorem o129_128 : zop 129 128 = some (.bipush 10, 2) := by decide +kernel
theorem o129_130 : zop 129 130 = some (.newarray .int, 2) := by decide +kernel
theorem o129_132 : zop 129 132 = some (.putfield 1010, 3) := by decide +kernel
theorem o129_135 : zop 129 135 = some (.aload_n 0, 1) := by decide +kernel
theorem o129_136 : zop 129 136 = some (.sipush 1200, 3) := by decide +kernel
theorem o129_139 : zop 129 139 = some (.newarray .int, 2) := by decide +kernel
theorem o129_141 : zop 129 141 = some (.putfield 1011, 3) := by decide +kernel
theorem o129_144 : zop 129 144 = some (.aload_n 0, 1) := by decide +kernel
theorem o129_145 : zop 129 145 = some (.iconst 3, 1) := by decide +kernel
theorem o129_146 : zop 129 146 = some (.newarray .int, 2) := by decide +kernel
theorem o129_148 : zop 129 148 = some (.putfield 1012, 3) := by decide +kernel
theorem o129_151 : zop 129 151 = some (.aload_n 0, 1) := by decide +kernel
theorem o129_152 : zop 129 152 = some (.sipush 600, 3) := by decide +kernel
theorem o129_155 : zop 129 155 = some (.newarray .int, 2) := by decide +kernel
theorem o129_157 : zop 129 157 = some (.putfield 1013, 3) := by decide +kernel
theorem o129_160 : zop 129 160 = some (.aload_n 0, 1) := by decide +kernel
theorem o129_161 : zop 129 161 = some (.iconst (-1), 1) := by decide +kernel
theorem o129_162 : zop 129 162 = some (.putfield 1023, 3) := by decide +kernel
theorem o129_165 : zop 129 165 = some (.aload_n 0, 1) := by decide +kernel
theorem o129_166 : zop 129 166 = some (.sipush 171, 3) := by decide +kernel
theorem o129_169 : zop 129 169 = some (.newarray .int, 2) := by decide +kernel
theorem o129_171 : zop 129 171 = some (.putfield 1024, 3) := by decide +kernel
theorem o129_174 : zop 129 174 = some (.aload_n 0, 1) := by decide +kernel
theorem o129_175 : zop 129 175 = some (.sipush 171, 3) := by decide +kernel
theorem o129_178 : zop 129 178 = some (.newarray .int, 2) := by decide +kernel
theorem o129_180 : zop 129 180 = some (.putfield 1025, 3) := by decide +kernel
theorem o129_183 : zop 129 183 = some (.aload_n 0, 1) := by decide +kernel
theorem o129_184 : zop 129 184 = some (.sipush 5130, 3) := by decide +kernel
theorem o129_187 : zop 129 187 = some (.newarray .int, 2) := by decide +kernel
theorem o129_189 : zop 129 189 = some (.putfield 1026, 3) := by decide +kernel
theorem o129_192 : zop 129 192 = some (.aload_n 0, 1) := by decide +kernel
theorem o129_193 : zop 129 193 = some (.bipush 8, 2) := by decide +kernel
theorem o129_195 : zop 129 195 = some (.newarray .int, 2) := by decide +kernel
theorem o129_197 : zop 129 197 = some (.putfield 1027, 3) := by decide +kernel
theorem o129_200 : zop 129 200 = some (.aload_n 0, 1) := by decide +kernel
theorem o129_201 : zop 129 201 = some (.bipush 6, 2) := by decide +kernel
theorem o129_203 : zop 129 203 = some (.newarray .int, 2) := by decide +kernel
theorem o129_205 : zop 129 205 = some (.putfield 1028, 3) := by decide +kernel
theorem o129_208 : zop 129 208 = some (.aload_n 0, 1) := by decide +kernel
theorem o129_209 : zop 129 209 = some (.bipush 64, 2) := by decide +kernel
theorem o129_211 : zop 129 211 = some (.newarray .int, 2) := by decide +kernel
theorem o129_213 : zop 129 213 = some (.putfield 1029, 3) := by decide +kernel
theorem o129_216 : zop 129 216 = some (.aload_n 0, 1) := by decide +kernel
theorem o129_217 : zop 129 217 = some (.sipush 180, 3) := by decide +kernel
theorem o129_220 : zop 129 220 = some (.newarray .int, 2) := by decide +kernel
theorem o129_222 : zop 129 222 = some (.putfield 1034, 3) := by decide +kernel
theorem o129_225 : zop 129 225 = some (.aload_n 0, 1) := by decide +kernel
theorem o129_226 : zop 129 226 = some (.iconst 4, 1) := by decide +kernel
theorem o129_227 : zop 129 227 = some (.newarray .int, 2) := by decide +kernel
theorem o129_229 : zop 129 229 = some (.putfield 1035, 3) := by decide +kernel
theorem o129_232 : zop 129 232 = some (.aload_n 0, 1) := by decide +kernel
theorem o129_233 : zop 129 233 = some (.iconst 4, 1) := by decide +kernel
theorem o129_234 : zop 129 234 = some (.newarray .int, 2) := by decide +kernel
theorem o129_236 : zop 129 236 = some (.putfield 1036, 3) := by decide +kernel
theorem o129_239 : zop 129 239 = some (.aload_n 0, 1) := by decide +kernel
theorem o129_240 : zop 129 240 = some (.iconst 4, 1) := by decide +kernel
theorem o129_241 : zop 129 241 = some (.newarray .int, 2) := by decide +kernel
theorem o129_243 : zop 129 243 = some (.putfield 1037, 3) := by decide +kernel
theorem o129_246 : zop 129 246 = some (.aload_n 0, 1) := by decide +kernel
theorem o129_247 : zop 129 247 = some (.iconst 4, 1) := by decide +kernel
theorem o129_248 : zop 129 248 = some (.newarray .int, 2) := by decide +kernel
theorem o129_250 : zop 129 250 = some (.putfield 1038, 3) := by decide +kernel
theorem o129_253 : zop 129 253 = some (.aload_n 0, 1) := by decide +kernel
theorem o129_254 : zop 129 254 = some (.iconst 4, 1) := by decide +kernel
theorem o129_255 : zop 129 255 = some (.newarray .int, 2) := by decide +kernel
theorem o129_257 : zop 129 257 = some (.putfield 1039, 3) := by decide +kernel
theorem o129_260 : zop 129 260 = some (.aload_n 0, 1) := by decide +kernel
theorem o129_261 : zop 129 261 = some (.bipush 10, 2) := by decide +kernel
theorem o129_263 : zop 129 263 = some (.newarray .int, 2) := by decide +kernel
theorem o129_265 : zop 129 265 = some (.putfield 1040, 3) := by decide +kernel
theorem o129_268 : zop 129 268 = some (.aload_n 0, 1) := by decide +kernel
theorem o129_269 : zop 129 269 = some (.bipush 10, 2) := by decide +kernel
theorem o129_271 : zop 129 271 = some (.newarray .int, 2) := by decide +kernel
theorem o129_273 : zop 129 273 = some (.putfield 1041, 3) := by decide +kernel
theorem o129_276 : zop 129 276 = some (.aload_n 0, 1) := by decide +kernel
theorem o129_277 : zop 129 277 = some (.bipush 10, 2) := by decide +kernel
theorem o129_279 : zop 129 279 = some (.newarray .int, 2) := by decide +kernel
theorem o129_281 : zop 129 281 = some (.putfield 1042, 3) := by decide +kernel
theorem o129_284 : zop 129 284 = some (.aload_n 0, 1) := by decide +kernel
theorem o129_285 : zop 129 285 = some (.iconst 5, 1) := by decide +kernel
theorem o129_286 : zop 129 286 = some (.newarray .int, 2) := by decide +kernel
theorem o129_288 : zop 129 288 = some (.putfield 1043, 3) := by decide +kernel
theorem o129_291 : zop 129 291 = some (.aload_n 0, 1) := by decide +kernel
theorem o129_292 : zop 129 292 = some (.iconst (-1), 1) := by decide +kernel
theorem o129_293 : zop 129 293 = some (.putfield 1044, 3) := by decide +kernel
theorem o129_296 : zop 129 296 = some (.aload_n 0, 1) := by decide +kernel
theorem o129_297 : zop 129 297 = some (.sipush 171, 3) := by decide +kernel
theorem o129_300 : zop 129 300 = some (.newarray .int, 2) := by decide +kernel
theorem o129_302 : zop 129 302 = some (.putfield 1054, 3) := by decide +kernel
theorem o129_305 : zop 129 305 = some (.aload_n 0, 1) := by decide +kernel
theorem o129_306 : zop 129 306 = some (.sipush 5130, 3) := by decide +kernel
theorem o129_309 : zop 129 309 = some (.newarray .int, 2) := by decide +kernel
theorem o129_311 : zop 129 311 = some (.putfield 1055, 3) := by decide +kernel
theorem o129_314 : zop 129 314 = some (.aload_n 0, 1) := by decide +kernel
theorem o129_315 : zop 129 315 = some (.sipush 180, 3) := by decide +kernel
theorem o129_318 : zop 129 318 = some (.newarray .int, 2) := by decide +kernel
theorem o129_320 : zop 129 320 = some (.putfield 1056, 3) := by decide +kernel
theorem o129_323 : zop 129 323 = some (.aload_n 0, 1) := by decide +kernel
theorem o129_324 : zop 129 324 = some (.iconst 4, 1) := by decide +kernel
theorem o129_325 : zop 129 325 = some (.newarray .int, 2) := by decide +kernel
theorem o129_327 : zop 129 327 = some (.putfield 1057, 3) := by decide +kernel
theorem o129_330 : zop 129 330 = some (.aload_n 0, 1) := by decide +kernel
theorem o129_331 : zop 129 331 = some (.iconst 4, 1) := by decide +kernel
theorem o129_332 : zop 129 332 = some (.newarray .int, 2) := by decide +kernel
theorem o129_334 : zop 129 334 = some (.putfield 1058, 3) := by decide +kernel
theorem o129_337 : zop 129 337 = some (.aload_n 0, 1) := by decide +kernel
theorem o129_338 : zop 129 338 = some (.bipush 10, 2) := by decide +kernel
theorem o129_340 : zop 129 340 = some (.newarray .int, 2) := by decide +kernel
theorem o129_342 : zop 129 342 = some (.putfield 1059, 3) := by decide +kernel
theorem o129_345 : zop 129 345 = some (.aload_n 0, 1) := by decide +kernel
theorem o129_346 : zop 129 346 = some (.bipush 10, 2) := by decide +kernel
theorem o129_348 : zop 129 348 = some (.newarray .int, 2) := by decide +kernel
theorem o129_350 : zop 129 350 = some (.putfield 1060, 3) := by decide +kernel
theorem o129_353 : zop 129 353 = some (.aload_n 0, 1) := by decide +kernel
theorem o129_354 : zop 129 354 = some (.bipush 10, 2) := by decide +kernel
theorem o129_356 : zop 129 356 = some (.newarray .int, 2) := by decide +kernel
theorem o129_358 : zop 129 358 = some (.putfield 1061, 3) := by decide +kernel
theorem o129_361 : zop 129 361 = some (.aload_n 0, 1) := by decide +kernel
theorem o129_362 : zop 129 362 = some (.iconst 3, 1) := by decide +kernel
theorem o129_363 : zop 129 363 = some (.newarray .int, 2) := by decide +kernel
theorem o129_365 : zop 129 365 = some (.putfield 1062, 3) := by decide +kernel
theorem o129_368 : zop 129 368 = some (.return_, 1) := by decide +kernel
theorem o130_0 : zop 130 0 = some (.aload_n 0, 1) := by decide +kernel
theorem o130_1 : zop 130 1 = some (.getfield 1002, 3) := by decide +kernel
theorem o130_4 : zop 130 4 = some (.ireturn, 1) := by decide +kernel
theorem o131_0 : zop 131 0 = some (.aload_n 0, 1) := by decide +kernel
theorem o131_1 : zop 131 1 = some (.iconst 0, 1) := by decide +kernel
theorem o131_2 : zop 131 2 = some (.putfield 1002, 3) := by decide +kernel
theorem o131_5 : zop 131 5 = some (.aload_n 0, 1) := by decide +kernel
theorem o131_6 : zop 131 6 = some (.getfield 1014, 3) := by decide +kernel
theorem o131_9 : zop 131 9 = some (.bipush 20, 2) := by decide +kernel
theorem o131_11 : zop 131 11 = some (.iadd, 1) := by decide +kernel
theorem o131_12 : zop 131 12 = some (.sipush 600, 3) := by decide +kernel
theorem o131_15 : zop 131 15 = some (.if_icmp .le 5, 3) := by decide +kernel
theorem o131_18 : zop 131 18 = some (.iconst (-1), 1) := by decide +kernel
theorem o131_19 : zop 131 19 = some (.ireturn, 1) := by decide +kernel
theorem o131_20 : zop 131 20 = some (.iconst 0, 1) := by decide +kernel
theorem o131_21 : zop 131 21 = some (.istore 6, 2) := by decide +kernel
theorem o131_23 : zop 131 23 = some (.iload 6, 2) := by decide +kernel
theorem o131_25 : zop 131 25 = some (.bipush 20, 2) := by decide +kernel
theorem o131_27 : zop 131 27 = some (.if_icmp .ge 93, 3) := by decide +kernel
theorem o131_30 : zop 131 30 = some (.iload 6, 2) := by decide +kernel
theorem o131_32 : zop 131 32 = some (.iconst 4, 1) := by decide +kernel
theorem o131_33 : zop 131 33 = some (.if_icmp .ge 7, 3) := by decide +kernel
theorem o131_36 : zop 131 36 = some (.iload_n 1, 1) := by decide +kernel
theorem o131_37 : zop 131 37 = some (.goto 39, 3) := by decide +kernel
theorem o131_40 : zop 131 40 = some (.iload 6, 2) := by decide +kernel
theorem o131_42 : zop 131 42 = some (.bipush 8, 2) := by decide +kernel
theorem o131_44 : zop 131 44 = some (.if_icmp .ge 7, 3) := by decide +kernel
theorem o131_47 : zop 131 47 = some (.iload_n 2, 1) := by decide +kernel
theorem o131_48 : zop 131 48 = some (.goto 28, 3) := by decide +kernel
theorem o131_51 : zop 131 51 = some (.iload 6, 2) := by decide +kernel
theorem o131_53 : zop 131 53 = some (.bipush 12, 2) := by decide +kernel
theorem o131_55 : zop 131 55 = some (.if_icmp .ge 7, 3) := by decide +kernel
theorem o131_58 : zop 131 58 = some (.iload_n 3, 1) := by decide +kernel
theorem o131_59 : zop 131 59 = some (.goto 17, 3) := by decide +kernel
theorem o131_62 : zop 131 62 = some (.iload 6, 2) := by decide +kernel
theorem o131_64 : zop 131 64 = some (.bipush 16, 2) := by decide +kernel
theorem o131_66 : zop 131 66 = some (.if_icmp .ge 8, 3) := by decide +kernel
theorem o131_69 : zop 131 69 = some (.iload 4, 2) := by decide +kernel
theorem o131_71 : zop 131 71 = some (.goto 5, 3) := by decide +kernel
theorem o131_74 : zop 131 74 = some (.iload 5, 2) := by decide +kernel
theorem o131_76 : zop 131 76 = some (.istore 7, 2) := by decide +kernel
theorem o131_78 : zop 131 78 = some (.aload_n 0, 1) := by decide +kernel
theorem o131_79 : zop 131 79 = some (.getfield 1013, 3) := by decide +kernel
theorem o131_82 : zop 131 82 = some (.aload_n 0, 1) := by decide +kernel
theorem o131_83 : zop 131 83 = some (.getfield 1014, 3) := by decide +kernel
theorem o131_86 : zop 131 86 = some (.iload 7, 2) := by decide +kernel
theorem o131_88 : zop 131 88 = some (.bipush 24, 2) := by decide +kernel
theorem o131_90 : zop 131 90 = some (.bipush 8, 2) := by decide +kernel
theorem o131_92 : zop 131 92 = some (.iload 6, 2) := by decide +kernel
theorem o131_94 : zop 131 94 = some (.iconst 4, 1) := by decide +kernel
theorem o131_95 : zop 131 95 = some (.irem, 1) := by decide +kernel
theorem o131_96 : zop 131 96 = some (.imul, 1) := by decide +kernel
theorem o131_97 : zop 131 97 = some (.isub, 1) := by decide +kernel
theorem o131_98 : zop 131 98 = some (.ishr, 1) := by decide +kernel
theorem o131_99 : zop 131 99 = some (.sipush 255, 3) := by decide +kernel
theorem o131_102 : zop 131 102 = some (.iand, 1) := by decide +kernel
theorem o131_103 : zop 131 103 = some (.iastore, 1) := by decide +kernel
theorem o131_104 : zop 131 104 = some (.aload_n 0, 1) := by decide +kernel
theorem o131_105 : zop 131 105 = some (.dup, 1) := by decide +kernel
theorem o131_106 : zop 131 106 = some (.getfield 1014, 3) := by decide +kernel
theorem o131_109 : zop 131 109 = some (.iconst 1, 1) := by decide +kernel
theorem o131_110 : zop 131 110 = some (.iadd, 1) := by decide +kernel
theorem o131_111 : zop 131 111 = some (.putfield 1014, 3) := by decide +kernel
theorem o131_114 : zop 131 114 = some (.iinc 6 1, 3) := by decide +kernel
theorem o131_117 : zop 131 117 = some (.goto (-94), 3) := by decide +kernel
theorem o131_120 : zop 131 120 = some (.aload_n 0, 1) := by decide +kernel
theorem o131_121 : zop 131 121 = some (.getfield 1014, 3) := by decide +kernel
theorem o131_124 : zop 131 124 = some (.ireturn, 1) := by decide +kernel
theorem o132_0 : zop 132 0 = some (.aload_n 0, 1) := by decide +kernel
theorem o132_1 : zop 132 1 = some (.iconst 0, 1) := by decide +kernel
theorem o132_2 : zop 132 2 = some (.putfield 1002, 3) := by decide +kernel
theorem o132_5 : zop 132 5 = some (.iload_n 1, 1) := by decide +kernel
theorem o132_6 : zop 132 6 = some (.ifCond .lt 11, 3) := by decide +kernel
theorem o132_9 : zop 132 9 = some (.iload_n 1, 1) := by decide +kernel
theorem o132_10 : zop 132 10 = some (.aload_n 0, 1) := by decide +kernel
theorem o132_11 : zop 132 11 = some (.getfield 1014, 3) := by decide +kernel
theorem o132_14 : zop 132 14 = some (.if_icmp .le 9, 3) := by decide +kernel
theorem o132_17 : zop 132 17 = some (.aload_n 0, 1) := by decide +kernel
theorem o132_18 : zop 132 18 = some (.iconst 1, 1) := by decide +kernel
theorem o132_19 : zop 132 19 = some (.invokevirtual 133, 3) := by decide +kernel
theorem o132_22 : zop 132 22 = some (.ireturn, 1) := by decide +kernel
theorem o132_23 : zop 132 23 = some (.aload_n 0, 1) := by decide +kernel
theorem o132_24 : zop 132 24 = some (.iconst 0, 1) := by decide +kernel
theorem o132_25 : zop 132 25 = some (.putfield 1014, 3) := by decide +kernel
theorem o132_28 : zop 132 28 = some (.aload_n 0, 1) := by decide +kernel
theorem o132_29 : zop 132 29 = some (.iload_n 1, 1) := by decide +kernel
theorem o132_30 : zop 132 30 = some (.putfield 1016, 3) := by decide +kernel
theorem o132_33 : zop 132 33 = some (.aload_n 0, 1) := by decide +kernel
theorem o132_34 : zop 132 34 = some (.iconst 0, 1) := by decide +kernel
theorem o132_35 : zop 132 35 = some (.putfield 1015, 3) := by decide +kernel
theorem o132_38 : zop 132 38 = some (.aload_n 0, 1) := by decide +kernel
theorem o132_39 : zop 132 39 = some (.iconst 0, 1) := by decide +kernel
theorem o132_40 : zop 132 40 = some (.putfield 1021, 3) := by decide +kernel
theorem o132_43 : zop 132 43 = some (.aload_n 0, 1) := by decide +kernel
theorem o132_44 : zop 132 44 = some (.iconst (-1), 1) := by decide +kernel
theorem o132_45 : zop 132 45 = some (.putfield 1023, 3) := by decide +kernel
theorem o132_48 : zop 132 48 = some (.iconst 0, 1) := by decide +kernel
theorem o132_49 : zop 132 49 = some (.istore_n 2, 1) := by decide +kernel
theorem o132_50 : zop 132 50 = some (.iload_n 2, 1) := by decide +kernel
theorem o132_51 : zop 132 51 = some (.iconst 4, 1) := by decide +kernel
theorem o132_52 : zop 132 52 = some (.if_icmp .ge 18, 3) := by decide +kernel
theorem o132_55 : zop 132 55 = some (.aload_n 0, 1) := by decide +kernel
theorem o132_56 : zop 132 56 = some (.getfield 1003, 3) := by decide +kernel
theorem o132_59 : zop 132 59 = some (.iconst 4, 1) := by decide +kernel
theorem o132_60 : zop 132 60 = some (.iload_n 2, 1) := by decide +kernel
theorem o132_61 : zop 132 61 = some (.iadd, 1) := by decide +kernel
theorem o132_62 : zop 132 62 = some (.iconst 0, 1) := by decide +kernel
theorem o132_63 : zop 132 63 = some (.iastore, 1) := by decide +kernel
theorem o132_64 : zop 132 64 = some (.iinc 2 1, 3) := by decide +kernel
theorem o132_67 : zop 132 67 = some (.goto (-17), 3) := by decide +kernel
theorem o132_70 : zop 132 70 = some (.aload_n 0, 1) := by decide +kernel
theorem o132_71 : zop 132 71 = some (.invokevirtual 134, 3) := by decide +kernel
theorem o132_74 : zop 132 74 = some (.iconst 0, 1) := by decide +kernel
theorem o132_75 : zop 132 75 = some (.istore_n 2, 1) := by decide +kernel
theorem o132_76 : zop 132 76 = some (.aload_n 0, 1) := by decide +kernel
theorem o132_77 : zop 132 77 = some (.getfield 1021, 3) := by decide +kernel
theorem o132_80 : zop 132 80 = some (.ifCond .ne 19, 3) := by decide +kernel
theorem o132_83 : zop 132 83 = some (.aload_n 0, 1) := by decide +kernel
theorem o132_84 : zop 132 84 = some (.getfield 1017, 3) := by decide +kernel
theorem o132_87 : zop 132 87 = some (.ifCond .eq 12, 3) := by decide +kernel
theorem o132_90 : zop 132 90 = some (.aload_n 0, 1) := by decide +kernel
theorem o132_91 : zop 132 91 = some (.iload_n 2, 1) := by decide +kernel
theorem o132_92 : zop 132 92 = some (.invokevirtual 139, 3) := by decide +kernel
theorem o132_95 : zop 132 95 = some (.istore_n 2, 1) := by decide +kernel
theorem o132_96 : zop 132 96 = some (.goto (-20), 3) := by decide +kernel
theorem o132_99 : zop 132 99 = some (.aload_n 0, 1) := by decide +kernel
theorem o132_100 : zop 132 100 = some (.getfield 1021, 3) := by decide +kernel
theorem o132_103 : zop 132 103 = some (.ifCond .eq 26, 3) := by decide +kernel
theorem o132_106 : zop 132 106 = some (.aload_n 0, 1) := by decide +kernel
theorem o132_107 : zop 132 107 = some (.aload_n 0, 1) := by decide +kernel
theorem o132_108 : zop 132 108 = some (.getfield 1022, 3) := by decide +kernel
theorem o132_111 : zop 132 111 = some (.putfield 1023, 3) := by decide +kernel
theorem o132_114 : zop 132 114 = some (.aload_n 0, 1) := by decide +kernel
theorem o132_115 : zop 132 115 = some (.getfield 1012, 3) := by decide +kernel
theorem o132_118 : zop 132 118 = some (.iconst 0, 1) := by decide +kernel
theorem o132_119 : zop 132 119 = some (.dup2, 1) := by decide +kernel
theorem o132_120 : zop 132 120 = some (.iaload, 1) := by decide +kernel
theorem o132_121 : zop 132 121 = some (.iconst 1, 1) := by decide +kernel
theorem o132_122 : zop 132 122 = some (.iadd, 1) := by decide +kernel
theorem o132_123 : zop 132 123 = some (.iastore, 1) := by decide +kernel
theorem o132_124 : zop 132 124 = some (.aload_n 0, 1) := by decide +kernel
theorem o132_125 : zop 132 125 = some (.getfield 1021, 3) := by decide +kernel
theorem o132_128 : zop 132 128 = some (.ireturn, 1) := by decide +kernel
theorem o132_129 : zop 132 129 = some (.aload_n 0, 1) := by decide +kernel
theorem o132_130 : zop 132 130 = some (.invokevirtual 159, 3) := by decide +kernel
theorem o132_133 : zop 132 133 = some (.iconst 0, 1) := by decide +kernel
theorem o132_134 : zop 132 134 = some (.ireturn, 1) := by decide +kernel
theorem o133_0 : zop 133 0 = some (.aload_n 0, 1) := by decide +kernel
theorem o133_1 : zop 133 1 = some (.iload_n 1, 1) := by decide +kernel
theorem o133_2 : zop 133 2 = some (.putfield 1002, 3) := by decide +kernel
theorem o133_5 : zop 133 5 = some (.iconst 0, 1) := by decide +kernel
theorem o133_6 : zop 133 6 = some (.ireturn, 1) := by decide +kernel
theorem o134_0 : zop 134 0 = some (.aload_n 0, 1) := by decide +kernel
theorem o134_1 : zop 134 1 = some (.aload_n 0, 1) := by decide +kernel
theorem o134_2 : zop 134 2 = some (.getfield 1015, 3) := by decide +kernel
theorem o134_5 : zop 134 5 = some (.invokevirtual 135, 3) := by decide +kernel
theorem o134_8 : zop 134 8 = some (.bipush 32, 2) := by decide +kernel
theorem o134_10 : zop 134 10 = some (.if_icmp .eq 16, 3) := by decide +kernel
theorem o134_13 : zop 134 13 = some (.aload_n 0, 1) := by decide +kernel
theorem o134_14 : zop 134 14 = some (.aload_n 0, 1) := by decide +kernel
theorem o134_15 : zop 134 15 = some (.getfield 1015, 3) := by decide +kernel
theorem o134_18 : zop 134 18 = some (.invokevirtual 135, 3) := by decide +kernel
theorem o134_21 : zop 134 21 = some (.bipush 10, 2) := by decide +kernel
theorem o134_23 : zop 134 23 = some (.if_icmp .ne 16, 3) := by decide +kernel
theorem o134_26 : zop 134 26 = some (.aload_n 0, 1) := by decide +kernel
theorem o134_27 : zop 134 27 = some (.dup, 1) := by decide +kernel
theorem o134_28 : zop 134 28 = some (.getfield 1015, 3) := by decide +kernel
theorem o134_31 : zop 134 31 = some (.iconst 1, 1) := by decide +kernel
theorem o134_32 : zop 134 32 = some (.iadd, 1) := by decide +kernel
theorem o134_33 : zop 134 33 = some (.putfield 1015, 3) := by decide +kernel
theorem o134_36 : zop 134 36 = some (.goto (-36), 3) := by decide +kernel
theorem o134_39 : zop 134 39 = some (.aload_n 0, 1) := by decide +kernel
theorem o134_40 : zop 134 40 = some (.aload_n 0, 1) := by decide +kernel
theorem o134_41 : zop 134 41 = some (.getfield 1015, 3) := by decide +kernel
theorem o134_44 : zop 134 44 = some (.putfield 1019, 3) := by decide +kernel
theorem o134_47 : zop 134 47 = some (.aload_n 0, 1) := by decide +kernel
theorem o134_48 : zop 134 48 = some (.aload_n 0, 1) := by decide +kernel
theorem o134_49 : zop 134 49 = some (.getfield 1015, 3) := by decide +kernel
theorem o134_52 : zop 134 52 = some (.invokevirtual 135, 3) := by decide +kernel
theorem o134_55 : zop 134 55 = some (.istore_n 1, 1) := by decide +kernel
theorem o134_56 : zop 134 56 = some (.iload_n 1, 1) := by decide +kernel
theorem o134_57 : zop 134 57 = some (.iconst (-1), 1) := by decide +kernel
theorem o134_58 : zop 134 58 = some (.if_icmp .ne 11, 3) := by decide +kernel
theorem o134_61 : zop 134 61 = some (.aload_n 0, 1) := by decide +kernel
theorem o134_62 : zop 134 62 = some (.iconst 0, 1) := by decide +kernel
theorem o134_63 : zop 134 63 = some (.putfield 1017, 3) := by decide +kernel
theorem o134_66 : zop 134 66 = some (.goto 146, 3) := by decide +kernel
theorem o134_69 : zop 134 69 = some (.iload_n 1, 1) := by decide +kernel
theorem o134_70 : zop 134 70 = some (.invokestatic 136, 3) := by decide +kernel
theorem o134_73 : zop 134 73 = some (.ifCond .eq 38, 3) := by decide +kernel
theorem o134_76 : zop 134 76 = some (.aload_n 0, 1) := by decide +kernel
theorem o134_77 : zop 134 77 = some (.aload_n 0, 1) := by decide +kernel
theorem o134_78 : zop 134 78 = some (.getfield 1015, 3) := by decide +kernel
theorem o134_81 : zop 134 81 = some (.invokevirtual 135, 3) := by decide +kernel
theorem o134_84 : zop 134 84 = some (.invokestatic 136, 3) := by decide +kernel
theorem o134_87 : zop 134 87 = some (.ifCond .eq 16, 3) := by decide +kernel
theorem o134_90 : zop 134 90 = some (.aload_n 0, 1) := by decide +kernel
theorem o134_91 : zop 134 91 = some (.dup, 1) := by decide +kernel
theorem o134_92 : zop 134 92 = some (.getfield 1015, 3) := by decide +kernel
theorem o134_95 : zop 134 95 = some (.iconst 1, 1) := by decide +kernel
theorem o134_96 : zop 134 96 = some (.iadd, 1) := by decide +kernel
theorem o134_97 : zop 134 97 = some (.putfield 1015, 3) := by decide +kernel
theorem o134_100 : zop 134 100 = some (.goto (-24), 3) := by decide +kernel
theorem o134_103 : zop 134 103 = some (.aload_n 0, 1) := by decide +kernel
theorem o134_104 : zop 134 104 = some (.iconst 1, 1) := by decide +kernel
theorem o134_105 : zop 134 105 = some (.putfield 1017, 3) := by decide +kernel
theorem o134_108 : zop 134 108 = some (.goto 104, 3) := by decide +kernel
theorem o134_111 : zop 134 111 = some (.iload_n 1, 1) := by decide +kernel
theorem o134_112 : zop 134 112 = some (.invokestatic 137, 3) := by decide +kernel
theorem o134_115 : zop 134 115 = some (.ifCond .eq 71, 3) := by decide +kernel
theorem o134_118 : zop 134 118 = some (.aload_n 0, 1) := by decide +kernel
theorem o134_119 : zop 134 119 = some (.iconst 0, 1) := by decide +kernel
theorem o134_120 : zop 134 120 = some (.putfield 1018, 3) := by decide +kernel
theorem o134_123 : zop 134 123 = some (.aload_n 0, 1) := by decide +kernel
theorem o134_124 : zop 134 124 = some (.aload_n 0, 1) := by decide +kernel
theorem o134_125 : zop 134 125 = some (.getfield 1015, 3) := by decide +kernel
theorem o134_128 : zop 134 128 = some (.invokevirtual 135, 3) := by decide +kernel
theorem o134_131 : zop 134 131 = some (.invokestatic 137, 3) := by decide +kernel
theorem o134_134 : zop 134 134 = some (.ifCond .eq 44, 3) := by decide +kernel
theorem o134_137 : zop 134 137 = some (.aload_n 0, 1) := by decide +kernel
theorem o134_138 : zop 134 138 = some (.ldc 1001, 2) := by decide +kernel
theorem o134_140 : zop 134 140 = some (.bipush 10, 2) := by decide +kernel
theorem o134_142 : zop 134 142 = some (.aload_n 0, 1) := by decide +kernel
theorem o134_143 : zop 134 143 = some (.getfield 1018, 3) := by decide +kernel
theorem o134_146 : zop 134 146 = some (.imul, 1) := by decide +kernel
theorem o134_147 : zop 134 147 = some (.aload_n 0, 1) := by decide +kernel
theorem o134_148 : zop 134 148 = some (.aload_n 0, 1) := by decide +kernel
theorem o134_149 : zop 134 149 = some (.getfield 1015, 3) := by decide +kernel
theorem o134_152 : zop 134 152 = some (.invokevirtual 135, 3) := by decide +kernel
theorem o134_155 : zop 134 155 = some (.iadd, 1) := by decide +kernel
theorem o134_156 : zop 134 156 = some (.bipush 48, 2) := by decide +kernel
theorem o134_158 : zop 134 158 = some (.isub, 1) := by decide +kernel
theorem o134_159 : zop 134 159 = some (.invokestatic 1001, 3) := by decide +kernel
theorem o134_162 : zop 134 162 = some (.putfield 1018, 3) := by decide +kernel
theorem o134_165 : zop 134 165 = some (.aload_n 0, 1) := by decide +kernel
theorem o134_166 : zop 134 166 = some (.dup, 1) := by decide +kernel
theorem o134_167 : zop 134 167 = some (.getfield 1015, 3) := by decide +kernel
theorem o134_170 : zop 134 170 = some (.iconst 1, 1) := by decide +kernel
theorem o134_171 : zop 134 171 = some (.iadd, 1) := by decide +kernel
theorem o134_172 : zop 134 172 = some (.putfield 1015, 3) := by decide +kernel
theorem o134_175 : zop 134 175 = some (.goto (-52), 3) := by decide +kernel
theorem o134_178 : zop 134 178 = some (.aload_n 0, 1) := by decide +kernel
theorem o134_179 : zop 134 179 = some (.iconst 2, 1) := by decide +kernel
theorem o134_180 : zop 134 180 = some (.putfield 1017, 3) := by decide +kernel
theorem o134_183 : zop 134 183 = some (.goto 29, 3) := by decide +kernel
theorem o134_186 : zop 134 186 = some (.aload_n 0, 1) := by decide +kernel
theorem o134_187 : zop 134 187 = some (.dup, 1) := by decide +kernel
theorem o134_188 : zop 134 188 = some (.getfield 1015, 3) := by decide +kernel
theorem o134_191 : zop 134 191 = some (.iconst 1, 1) := by decide +kernel
theorem o134_192 : zop 134 192 = some (.iadd, 1) := by decide +kernel
theorem o134_193 : zop 134 193 = some (.putfield 1015, 3) := by decide +kernel
theorem o134_196 : zop 134 196 = some (.aload_n 0, 1) := by decide +kernel
theorem o134_197 : zop 134 197 = some (.iload_n 1, 1) := by decide +kernel
theorem o134_198 : zop 134 198 = some (.invokestatic 138, 3) := by decide +kernel
theorem o134_201 : zop 134 201 = some (.ifCond .eq 7, 3) := by decide +kernel
theorem o134_204 : zop 134 204 = some (.iconst 3, 1) := by decide +kernel
theorem o134_205 : zop 134 205 = some (.goto 4, 3) := by decide +kernel
theorem o134_208 : zop 134 208 = some (.iconst 4, 1) := by decide +kernel
theorem o134_209 : zop 134 209 = some (.putfield 1017, 3) := by decide +kernel
theorem o134_212 : zop 134 212 = some (.aload_n 0, 1) := by decide +kernel
theorem o134_213 : zop 134 213 = some (.aload_n 0, 1) := by decide +kernel
theorem o134_214 : zop 134 214 = some (.getfield 1015, 3) := by decide +kernel
theorem o134_217 : zop 134 217 = some (.putfield 1020, 3) := by decide +kernel
theorem o134_220 : zop 134 220 = some (.return_, 1) := by decide +kernel
theorem o135_0 : zop 135 0 = some (.iload_n 1, 1) := by decide +kernel
theorem o135_1 : zop 135 1 = some (.aload_n 0, 1) := by decide +kernel
theorem o135_2 : zop 135 2 = some (.getfield 1016, 3) := by decide +kernel
theorem o135_5 : zop 135 5 = some (.if_icmp .ge 12, 3) := by decide +kernel
theorem o135_8 : zop 135 8 = some (.aload_n 0, 1) := by decide +kernel
theorem o135_9 : zop 135 9 = some (.getfield 1013, 3) := by decide +kernel
theorem o135_12 : zop 135 12 = some (.iload_n 1, 1) := by decide +kernel
theorem o135_13 : zop 135 13 = some (.iaload, 1) := by decide +kernel
theorem o135_14 : zop 135 14 = some (.goto 4, 3) := by decide +kernel
theorem o135_17 : zop 135 17 = some (.iconst (-1), 1) := by decide +kernel
theorem o135_18 : zop 135 18 = some (.ireturn, 1) := by decide +kernel
