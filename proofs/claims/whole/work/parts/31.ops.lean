theorem o48_0 : zop 48 0 = some (.iload_n 0, 1) := by decide +kernel
theorem o48_1 : zop 48 1 = some (.tableswitch 107 (-14) (-7) #[93, 107, 82, 71, 59, 55, 51, 47], 47) := by decide +kernel
theorem o48_48 : zop 48 48 = some (.iload_n 1, 1) := by decide +kernel
theorem o48_49 : zop 48 49 = some (.iload_n 2, 1) := by decide +kernel
theorem o48_50 : zop 48 50 = some (.iadd, 1) := by decide +kernel
theorem o48_51 : zop 48 51 = some (.ireturn, 1) := by decide +kernel
theorem o48_52 : zop 48 52 = some (.iload_n 1, 1) := by decide +kernel
theorem o48_53 : zop 48 53 = some (.iload_n 2, 1) := by decide +kernel
theorem o48_54 : zop 48 54 = some (.isub, 1) := by decide +kernel
theorem o48_55 : zop 48 55 = some (.ireturn, 1) := by decide +kernel
theorem o48_56 : zop 48 56 = some (.iload_n 1, 1) := by decide +kernel
theorem o48_57 : zop 48 57 = some (.iload_n 2, 1) := by decide +kernel
theorem o48_58 : zop 48 58 = some (.imul, 1) := by decide +kernel
theorem o48_59 : zop 48 59 = some (.ireturn, 1) := by decide +kernel
theorem o48_60 : zop 48 60 = some (.iload_n 2, 1) := by decide +kernel
theorem o48_61 : zop 48 61 = some (.ifCond .ne 7, 3) := by decide +kernel
theorem o48_64 : zop 48 64 = some (.iconst 0, 1) := by decide +kernel
theorem o48_65 : zop 48 65 = some (.goto 6, 3) := by decide +kernel
theorem o48_68 : zop 48 68 = some (.iload_n 1, 1) := by decide +kernel
theorem o48_69 : zop 48 69 = some (.iload_n 2, 1) := by decide +kernel
theorem o48_70 : zop 48 70 = some (.idiv, 1) := by decide +kernel
theorem o48_71 : zop 48 71 = some (.ireturn, 1) := by decide +kernel
theorem o48_72 : zop 48 72 = some (.iload_n 1, 1) := by decide +kernel
theorem o48_73 : zop 48 73 = some (.iload_n 2, 1) := by decide +kernel
theorem o48_74 : zop 48 74 = some (.if_icmp .ge 7, 3) := by decide +kernel
theorem o48_77 : zop 48 77 = some (.iconst 1, 1) := by decide +kernel
theorem o48_78 : zop 48 78 = some (.goto 4, 3) := by decide +kernel
theorem o48_81 : zop 48 81 = some (.iconst 0, 1) := by decide +kernel
theorem o48_82 : zop 48 82 = some (.ireturn, 1) := by decide +kernel
theorem o48_83 : zop 48 83 = some (.iload_n 1, 1) := by decide +kernel
theorem o48_84 : zop 48 84 = some (.iload_n 2, 1) := by decide +kernel
theorem o48_85 : zop 48 85 = some (.if_icmp .ne 7, 3) := by decide +kernel
theorem o48_88 : zop 48 88 = some (.iconst 1, 1) := by decide +kernel
theorem o48_89 : zop 48 89 = some (.goto 4, 3) := by decide +kernel
theorem o48_92 : zop 48 92 = some (.iconst 0, 1) := by decide +kernel
theorem o48_93 : zop 48 93 = some (.ireturn, 1) := by decide +kernel
theorem o48_94 : zop 48 94 = some (.iload_n 1, 1) := by decide +kernel
theorem o48_95 : zop 48 95 = some (.ifCond .eq 11, 3) := by decide +kernel
theorem o48_98 : zop 48 98 = some (.iload_n 2, 1) := by decide +kernel
theorem o48_99 : zop 48 99 = some (.ifCond .eq 7, 3) := by decide +kernel
theorem o48_102 : zop 48 102 = some (.iconst 1, 1) := by decide +kernel
theorem o48_103 : zop 48 103 = some (.goto 4, 3) := by decide +kernel
theorem o48_106 : zop 48 106 = some (.iconst 0, 1) := by decide +kernel
theorem o48_107 : zop 48 107 = some (.ireturn, 1) := by decide +kernel
theorem o48_108 : zop 48 108 = some (.iload_n 1, 1) := by decide +kernel
theorem o48_109 : zop 48 109 = some (.ifCond .ne 7, 3) := by decide +kernel
theorem o48_112 : zop 48 112 = some (.iload_n 2, 1) := by decide +kernel
theorem o48_113 : zop 48 113 = some (.ifCond .eq 7, 3) := by decide +kernel
theorem o48_116 : zop 48 116 = some (.iconst 1, 1) := by decide +kernel
theorem o48_117 : zop 48 117 = some (.goto 4, 3) := by decide +kernel
theorem o48_120 : zop 48 120 = some (.iconst 0, 1) := by decide +kernel
theorem o48_121 : zop 48 121 = some (.ireturn, 1) := by decide +kernel
theorem o49_0 : zop 49 0 = some (.aload_n 0, 1) := by decide +kernel
theorem o49_1 : zop 49 1 = some (.invokespecial 1000, 3) := by decide +kernel
theorem o49_4 : zop 49 4 = some (.aload_n 0, 1) := by decide +kernel
theorem o49_5 : zop 49 5 = some (.iconst 0, 1) := by decide +kernel
theorem o49_6 : zop 49 6 = some (.putfield 500, 3) := by decide +kernel
theorem o49_9 : zop 49 9 = some (.aload_n 0, 1) := by decide +kernel
theorem o49_10 : zop 49 10 = some (.iconst 0, 1) := by decide +kernel
theorem o49_11 : zop 49 11 = some (.putfield 501, 3) := by decide +kernel
theorem o49_14 : zop 49 14 = some (.aload_n 0, 1) := by decide +kernel
theorem o49_15 : zop 49 15 = some (.iconst 0, 1) := by decide +kernel
theorem o49_16 : zop 49 16 = some (.putfield 502, 3) := by decide +kernel
theorem o49_19 : zop 49 19 = some (.aload_n 0, 1) := by decide +kernel
theorem o49_20 : zop 49 20 = some (.iconst 0, 1) := by decide +kernel
theorem o49_21 : zop 49 21 = some (.putfield 503, 3) := by decide +kernel
theorem o49_24 : zop 49 24 = some (.aload_n 0, 1) := by decide +kernel
theorem o49_25 : zop 49 25 = some (.bipush 8, 2) := by decide +kernel
theorem o49_27 : zop 49 27 = some (.newarray .int, 2) := by decide +kernel
theorem o49_29 : zop 49 29 = some (.putfield 504, 3) := by decide +kernel
theorem o49_32 : zop 49 32 = some (.return_, 1) := by decide +kernel
theorem o50_0 : zop 50 0 = some (.aload_n 0, 1) := by decide +kernel
theorem o50_1 : zop 50 1 = some (.iload_n 1, 1) := by decide +kernel
theorem o50_2 : zop 50 2 = some (.putfield 500, 3) := by decide +kernel
theorem o50_5 : zop 50 5 = some (.aload_n 0, 1) := by decide +kernel
theorem o50_6 : zop 50 6 = some (.iload_n 2, 1) := by decide +kernel
theorem o50_7 : zop 50 7 = some (.putfield 501, 3) := by decide +kernel
theorem o50_10 : zop 50 10 = some (.aload_n 0, 1) := by decide +kernel
theorem o50_11 : zop 50 11 = some (.iload_n 3, 1) := by decide +kernel
theorem o50_12 : zop 50 12 = some (.putfield 502, 3) := by decide +kernel
theorem o50_15 : zop 50 15 = some (.aload_n 0, 1) := by decide +kernel
theorem o50_16 : zop 50 16 = some (.iconst 0, 1) := by decide +kernel
theorem o50_17 : zop 50 17 = some (.putfield 503, 3) := by decide +kernel
theorem o50_20 : zop 50 20 = some (.return_, 1) := by decide +kernel
theorem o51_0 : zop 51 0 = some (.aload_n 0, 1) := by decide +kernel
theorem o51_1 : zop 51 1 = some (.getfield 503, 3) := by decide +kernel
theorem o51_4 : zop 51 4 = some (.iconst 1, 1) := by decide +kernel
theorem o51_5 : zop 51 5 = some (.isub, 1) := by decide +kernel
theorem o51_6 : zop 51 6 = some (.istore_n 3, 1) := by decide +kernel
theorem o51_7 : zop 51 7 = some (.iload_n 3, 1) := by decide +kernel
theorem o51_8 : zop 51 8 = some (.ifCond .lt 60, 3) := by decide +kernel
theorem o51_11 : zop 51 11 = some (.aload_n 2, 1) := by decide +kernel
theorem o51_12 : zop 51 12 = some (.getfield 200, 3) := by decide +kernel
theorem o51_15 : zop 51 15 = some (.aload_n 0, 1) := by decide +kernel
theorem o51_16 : zop 51 16 = some (.getfield 502, 3) := by decide +kernel
theorem o51_19 : zop 51 19 = some (.iaload, 1) := by decide +kernel
theorem o51_20 : zop 51 20 = some (.ifCond .le 48, 3) := by decide +kernel
theorem o51_23 : zop 51 23 = some (.aload_n 2, 1) := by decide +kernel
theorem o51_24 : zop 51 24 = some (.aload_n 1, 1) := by decide +kernel
theorem o51_25 : zop 51 25 = some (.aload_n 0, 1) := by decide +kernel
theorem o51_26 : zop 51 26 = some (.getfield 502, 3) := by decide +kernel
theorem o51_29 : zop 51 29 = some (.aload_n 2, 1) := by decide +kernel
theorem o51_30 : zop 51 30 = some (.getfield 200, 3) := by decide +kernel
theorem o51_33 : zop 51 33 = some (.aload_n 0, 1) := by decide +kernel
theorem o51_34 : zop 51 34 = some (.getfield 502, 3) := by decide +kernel
theorem o51_37 : zop 51 37 = some (.iaload, 1) := by decide +kernel
theorem o51_38 : zop 51 38 = some (.iconst 1, 1) := by decide +kernel
theorem o51_39 : zop 51 39 = some (.isub, 1) := by decide +kernel
theorem o51_40 : zop 51 40 = some (.invokevirtual 17, 3) := by decide +kernel
theorem o51_43 : zop 51 43 = some (.istore 4, 2) := by decide +kernel
theorem o51_45 : zop 51 45 = some (.aload_n 2, 1) := by decide +kernel
theorem o51_46 : zop 51 46 = some (.aload_n 1, 1) := by decide +kernel
theorem o51_47 : zop 51 47 = some (.aload_n 0, 1) := by decide +kernel
theorem o51_48 : zop 51 48 = some (.getfield 501, 3) := by decide +kernel
theorem o51_51 : zop 51 51 = some (.aload_n 0, 1) := by decide +kernel
theorem o51_52 : zop 51 52 = some (.getfield 504, 3) := by decide +kernel
theorem o51_55 : zop 51 55 = some (.iload_n 3, 1) := by decide +kernel
theorem o51_56 : zop 51 56 = some (.iaload, 1) := by decide +kernel
theorem o51_57 : zop 51 57 = some (.iload 4, 2) := by decide +kernel
theorem o51_59 : zop 51 59 = some (.invokevirtual 18, 3) := by decide +kernel
theorem o51_62 : zop 51 62 = some (.iinc 3 (-1), 3) := by decide +kernel
theorem o51_65 : zop 51 65 = some (.goto (-58), 3) := by decide +kernel
theorem o51_68 : zop 51 68 = some (.aload_n 0, 1) := by decide +kernel
theorem o51_69 : zop 51 69 = some (.iconst 0, 1) := by decide +kernel
theorem o51_70 : zop 51 70 = some (.putfield 503, 3) := by decide +kernel
theorem o51_73 : zop 51 73 = some (.return_, 1) := by decide +kernel
theorem o52_0 : zop 52 0 = some (.aload_n 0, 1) := by decide +kernel
theorem o52_1 : zop 52 1 = some (.getfield 503, 3) := by decide +kernel
theorem o52_4 : zop 52 4 = some (.istore 4, 2) := by decide +kernel
theorem o52_6 : zop 52 6 = some (.iload 4, 2) := by decide +kernel
theorem o52_8 : zop 52 8 = some (.iload_n 3, 1) := by decide +kernel
theorem o52_9 : zop 52 9 = some (.if_icmp .ge 90, 3) := by decide +kernel
theorem o52_12 : zop 52 12 = some (.iload 4, 2) := by decide +kernel
theorem o52_14 : zop 52 14 = some (.bipush 8, 2) := by decide +kernel
theorem o52_16 : zop 52 16 = some (.if_icmp .ge 83, 3) := by decide +kernel
theorem o52_19 : zop 52 19 = some (.aload_n 2, 1) := by decide +kernel
theorem o52_20 : zop 52 20 = some (.aload_n 1, 1) := by decide +kernel
theorem o52_21 : zop 52 21 = some (.aload_n 0, 1) := by decide +kernel
theorem o52_22 : zop 52 22 = some (.getfield 500, 3) := by decide +kernel
theorem o52_25 : zop 52 25 = some (.aload_n 0, 1) := by decide +kernel
theorem o52_26 : zop 52 26 = some (.getfield 501, 3) := by decide +kernel
theorem o52_29 : zop 52 29 = some (.invokevirtual 22, 3) := by decide +kernel
theorem o52_32 : zop 52 32 = some (.istore 5, 2) := by decide +kernel
theorem o52_34 : zop 52 34 = some (.iload 5, 2) := by decide +kernel
theorem o52_36 : zop 52 36 = some (.iconst (-1), 1) := by decide +kernel
theorem o52_37 : zop 52 37 = some (.if_icmp .ne 4, 3) := by decide +kernel
theorem o52_40 : zop 52 40 = some (.return_, 1) := by decide +kernel
theorem o52_41 : zop 52 41 = some (.aload_n 2, 1) := by decide +kernel
theorem o52_42 : zop 52 42 = some (.aload_n 1, 1) := by decide +kernel
theorem o52_43 : zop 52 43 = some (.aload_n 0, 1) := by decide +kernel
theorem o52_44 : zop 52 44 = some (.getfield 501, 3) := by decide +kernel
theorem o52_47 : zop 52 47 = some (.iload 5, 2) := by decide +kernel
theorem o52_49 : zop 52 49 = some (.invokevirtual 17, 3) := by decide +kernel
theorem o52_52 : zop 52 52 = some (.istore 6, 2) := by decide +kernel
theorem o52_54 : zop 52 54 = some (.aload_n 2, 1) := by decide +kernel
theorem o52_55 : zop 52 55 = some (.aload_n 1, 1) := by decide +kernel
theorem o52_56 : zop 52 56 = some (.aload_n 0, 1) := by decide +kernel
theorem o52_57 : zop 52 57 = some (.getfield 502, 3) := by decide +kernel
theorem o52_60 : zop 52 60 = some (.aload_n 2, 1) := by decide +kernel
theorem o52_61 : zop 52 61 = some (.getfield 200, 3) := by decide +kernel
theorem o52_64 : zop 52 64 = some (.aload_n 0, 1) := by decide +kernel
theorem o52_65 : zop 52 65 = some (.getfield 502, 3) := by decide +kernel
theorem o52_68 : zop 52 68 = some (.iaload, 1) := by decide +kernel
theorem o52_69 : zop 52 69 = some (.iload 6, 2) := by decide +kernel
theorem o52_71 : zop 52 71 = some (.invokevirtual 18, 3) := by decide +kernel
theorem o52_74 : zop 52 74 = some (.aload_n 0, 1) := by decide +kernel
theorem o52_75 : zop 52 75 = some (.getfield 504, 3) := by decide +kernel
theorem o52_78 : zop 52 78 = some (.iload 4, 2) := by decide +kernel
theorem o52_80 : zop 52 80 = some (.iload 5, 2) := by decide +kernel
theorem o52_82 : zop 52 82 = some (.iastore, 1) := by decide +kernel
theorem o52_83 : zop 52 83 = some (.aload_n 0, 1) := by decide +kernel
theorem o52_84 : zop 52 84 = some (.dup, 1) := by decide +kernel
theorem o52_85 : zop 52 85 = some (.getfield 503, 3) := by decide +kernel
theorem o52_88 : zop 52 88 = some (.iconst 1, 1) := by decide +kernel
theorem o52_89 : zop 52 89 = some (.iadd, 1) := by decide +kernel
theorem o52_90 : zop 52 90 = some (.putfield 503, 3) := by decide +kernel
theorem o52_93 : zop 52 93 = some (.iinc 4 1, 3) := by decide +kernel
theorem o52_96 : zop 52 96 = some (.goto (-90), 3) := by decide +kernel
theorem o52_99 : zop 52 99 = some (.return_, 1) := by decide +kernel
theorem o53_0 : zop 53 0 = some (.aload_n 0, 1) := by decide +kernel
theorem o53_1 : zop 53 1 = some (.invokespecial 1000, 3) := by decide +kernel
theorem o53_4 : zop 53 4 = some (.aload_n 0, 1) := by decide +kernel
theorem o53_5 : zop 53 5 = some (.iconst 0, 1) := by decide +kernel
theorem o53_6 : zop 53 6 = some (.putfield 600, 3) := by decide +kernel
theorem o53_9 : zop 53 9 = some (.aload_n 0, 1) := by decide +kernel
theorem o53_10 : zop 53 10 = some (.iconst 0, 1) := by decide +kernel
theorem o53_11 : zop 53 11 = some (.putfield 601, 3) := by decide +kernel
theorem o53_14 : zop 53 14 = some (.aload_n 0, 1) := by decide +kernel
theorem o53_15 : zop 53 15 = some (.sipush 180, 3) := by decide +kernel
theorem o53_18 : zop 53 18 = some (.newarray .int, 2) := by decide +kernel
theorem o53_20 : zop 53 20 = some (.putfield 602, 3) := by decide +kernel
theorem o53_23 : zop 53 23 = some (.aload_n 0, 1) := by decide +kernel
theorem o53_24 : zop 53 24 = some (.bipush 30, 2) := by decide +kernel
theorem o53_26 : zop 53 26 = some (.newarray .long, 2) := by decide +kernel
theorem o53_28 : zop 53 28 = some (.putfield 603, 3) := by decide +kernel
theorem o53_31 : zop 53 31 = some (.aload_n 0, 1) := by decide +kernel
theorem o53_32 : zop 53 32 = some (.sipush 240, 3) := by decide +kernel
theorem o53_35 : zop 53 35 = some (.newarray .int, 2) := by decide +kernel
theorem o53_37 : zop 53 37 = some (.putfield 604, 3) := by decide +kernel
theorem o53_40 : zop 53 40 = some (.aload_n 0, 1) := by decide +kernel
theorem o53_41 : zop 53 41 = some (.sipush 186, 3) := by decide +kernel
theorem o53_44 : zop 53 44 = some (.newarray .int, 2) := by decide +kernel
theorem o53_46 : zop 53 46 = some (.putfield 605, 3) := by decide +kernel
theorem o53_49 : zop 53 49 = some (.return_, 1) := by decide +kernel
theorem o54_0 : zop 54 0 = some (.aload_n 0, 1) := by decide +kernel
theorem o54_1 : zop 54 1 = some (.dup, 1) := by decide +kernel
theorem o54_2 : zop 54 2 = some (.getfield 600, 3) := by decide +kernel
theorem o54_5 : zop 54 5 = some (.iconst 1, 1) := by decide +kernel
theorem o54_6 : zop 54 6 = some (.isub, 1) := by decide +kernel
theorem o54_7 : zop 54 7 = some (.putfield 600, 3) := by decide +kernel
theorem o54_10 : zop 54 10 = some (.aload_n 1, 1) := by decide +kernel
theorem o54_11 : zop 54 11 = some (.aload_n 0, 1) := by decide +kernel
theorem o54_12 : zop 54 12 = some (.aload_n 0, 1) := by decide +kernel
theorem o54_13 : zop 54 13 = some (.getfield 600, 3) := by decide +kernel
theorem o54_16 : zop 54 16 = some (.iconst 0, 1) := by decide +kernel
theorem o54_17 : zop 54 17 = some (.invokevirtual 55, 3) := by decide +kernel
theorem o54_20 : zop 54 20 = some (.aload_n 0, 1) := by decide +kernel
theorem o54_21 : zop 54 21 = some (.aload_n 0, 1) := by decide +kernel
theorem o54_22 : zop 54 22 = some (.getfield 600, 3) := by decide +kernel
theorem o54_25 : zop 54 25 = some (.iconst 1, 1) := by decide +kernel
theorem o54_26 : zop 54 26 = some (.invokevirtual 55, 3) := by decide +kernel
theorem o54_29 : zop 54 29 = some (.aload_n 0, 1) := by decide +kernel
theorem o54_30 : zop 54 30 = some (.aload_n 0, 1) := by decide +kernel
theorem o54_31 : zop 54 31 = some (.getfield 600, 3) := by decide +kernel
theorem o54_34 : zop 54 34 = some (.iconst 2, 1) := by decide +kernel
theorem o54_35 : zop 54 35 = some (.invokevirtual 55, 3) := by decide +kernel
theorem o54_38 : zop 54 38 = some (.invokevirtual 50, 3) := by decide +kernel
theorem o54_41 : zop 54 41 = some (.aload_n 1, 1) := by decide +kernel
theorem o54_42 : zop 54 42 = some (.aload_n 0, 1) := by decide +kernel
theorem o54_43 : zop 54 43 = some (.aload_n 0, 1) := by decide +kernel
theorem o54_44 : zop 54 44 = some (.getfield 600, 3) := by decide +kernel
theorem o54_47 : zop 54 47 = some (.iconst 4, 1) := by decide +kernel
theorem o54_48 : zop 54 48 = some (.invokevirtual 55, 3) := by decide +kernel
theorem o54_51 : zop 54 51 = some (.putfield 503, 3) := by decide +kernel
theorem o54_54 : zop 54 54 = some (.aload_n 0, 1) := by decide +kernel
theorem o54_55 : zop 54 55 = some (.getfield 604, 3) := by decide +kernel
theorem o54_58 : zop 54 58 = some (.aload_n 0, 1) := by decide +kernel
theorem o54_59 : zop 54 59 = some (.getfield 600, 3) := by decide +kernel
theorem o54_62 : zop 54 62 = some (.bipush 8, 2) := by decide +kernel
theorem o54_64 : zop 54 64 = some (.imul, 1) := by decide +kernel
theorem o54_65 : zop 54 65 = some (.aload_n 1, 1) := by decide +kernel
theorem o54_66 : zop 54 66 = some (.getfield 504, 3) := by decide +kernel
theorem o54_69 : zop 54 69 = some (.iconst 0, 1) := by decide +kernel
theorem o54_70 : zop 54 70 = some (.bipush 8, 2) := by decide +kernel
theorem o54_72 : zop 54 72 = some (.invokestatic 1003, 3) := by decide +kernel
theorem o54_75 : zop 54 75 = some (.return_, 1) := by decide +kernel
theorem o55_0 : zop 55 0 = some (.aload_n 0, 1) := by decide +kernel
theorem o55_1 : zop 55 1 = some (.getfield 602, 3) := by decide +kernel
theorem o55_4 : zop 55 4 = some (.iload_n 1, 1) := by decide +kernel
theorem o55_5 : zop 55 5 = some (.bipush 6, 2) := by decide +kernel
theorem o55_7 : zop 55 7 = some (.imul, 1) := by decide +kernel
theorem o55_8 : zop 55 8 = some (.iload_n 2, 1) := by decide +kernel
theorem o55_9 : zop 55 9 = some (.iadd, 1) := by decide +kernel
theorem o55_10 : zop 55 10 = some (.iaload, 1) := by decide +kernel
theorem o55_11 : zop 55 11 = some (.ireturn, 1) := by decide +kernel
theorem o56_0 : zop 56 0 = some (.aload_n 1, 1) := by decide +kernel
theorem o56_1 : zop 56 1 = some (.getfield 602, 3) := by decide +kernel
theorem o56_4 : zop 56 4 = some (.iconst 0, 1) := by decide +kernel
theorem o56_5 : zop 56 5 = some (.aload_n 0, 1) := by decide +kernel
theorem o56_6 : zop 56 6 = some (.getfield 602, 3) := by decide +kernel
theorem o56_9 : zop 56 9 = some (.iconst 0, 1) := by decide +kernel
theorem o56_10 : zop 56 10 = some (.sipush 180, 3) := by decide +kernel
theorem o56_13 : zop 56 13 = some (.invokestatic 1003, 3) := by decide +kernel
theorem o56_16 : zop 56 16 = some (.aload_n 1, 1) := by decide +kernel
theorem o56_17 : zop 56 17 = some (.getfield 603, 3) := by decide +kernel
theorem o56_20 : zop 56 20 = some (.iconst 0, 1) := by decide +kernel
theorem o56_21 : zop 56 21 = some (.aload_n 0, 1) := by decide +kernel
theorem o56_22 : zop 56 22 = some (.getfield 603, 3) := by decide +kernel
theorem o56_25 : zop 56 25 = some (.iconst 0, 1) := by decide +kernel
theorem o56_26 : zop 56 26 = some (.bipush 30, 2) := by decide +kernel
theorem o56_28 : zop 56 28 = some (.invokestatic 1003, 3) := by decide +kernel
theorem o56_31 : zop 56 31 = some (.aload_n 1, 1) := by decide +kernel
theorem o56_32 : zop 56 32 = some (.getfield 604, 3) := by decide +kernel
theorem o56_35 : zop 56 35 = some (.iconst 0, 1) := by decide +kernel
theorem o56_36 : zop 56 36 = some (.aload_n 0, 1) := by decide +kernel
theorem o56_37 : zop 56 37 = some (.getfield 604, 3) := by decide +kernel
theorem o56_40 : zop 56 40 = some (.iconst 0, 1) := by decide +kernel
theorem o56_41 : zop 56 41 = some (.sipush 240, 3) := by decide +kernel
theorem o56_44 : zop 56 44 = some (.invokestatic 1003, 3) := by decide +kernel
theorem o56_47 : zop 56 47 = some (.aload_n 1, 1) := by decide +kernel
theorem o56_48 : zop 56 48 = some (.getfield 605, 3) := by decide +kernel
theorem o56_51 : zop 56 51 = some (.iconst 0, 1) := by decide +kernel
theorem o56_52 : zop 56 52 = some (.aload_n 0, 1) := by decide +kernel
theorem o56_53 : zop 56 53 = some (.getfield 605, 3) := by decide +kernel
theorem o56_56 : zop 56 56 = some (.iconst 0, 1) := by decide +kernel
theorem o56_57 : zop 56 57 = some (.sipush 186, 3) := by decide +kernel
theorem o56_60 : zop 56 60 = some (.invokestatic 1003, 3) := by decide +kernel
theorem o56_63 : zop 56 63 = some (.aload_n 0, 1) := by decide +kernel
theorem o56_64 : zop 56 64 = some (.aload_n 1, 1) := by decide +kernel
theorem o56_65 : zop 56 65 = some (.getfield 600, 3) := by decide +kernel
theorem o56_68 : zop 56 68 = some (.putfield 600, 3) := by decide +kernel
theorem o56_71 : zop 56 71 = some (.aload_n 0, 1) := by decide +kernel
theorem o56_72 : zop 56 72 = some (.aload_n 1, 1) := by decide +kernel
theorem o56_73 : zop 56 73 = some (.getfield 601, 3) := by decide +kernel
theorem o56_76 : zop 56 76 = some (.putfield 601, 3) := by decide +kernel
theorem o56_79 : zop 56 79 = some (.return_, 1) := by decide +kernel
theorem o57_0 : zop 57 0 = some (.aload_n 0, 1) := by decide +kernel
theorem o57_1 : zop 57 1 = some (.iconst 0, 1) := by decide +kernel
theorem o57_2 : zop 57 2 = some (.putfield 600, 3) := by decide +kernel
theorem o57_5 : zop 57 5 = some (.aload_n 0, 1) := by decide +kernel
theorem o57_6 : zop 57 6 = some (.iconst 0, 1) := by decide +kernel
theorem o57_7 : zop 57 7 = some (.putfield 601, 3) := by decide +kernel
theorem o57_10 : zop 57 10 = some (.iconst 0, 1) := by decide +kernel
theorem o57_11 : zop 57 11 = some (.istore_n 1, 1) := by decide +kernel
theorem o57_12 : zop 57 12 = some (.iload_n 1, 1) := by decide +kernel
theorem o57_13 : zop 57 13 = some (.bipush 6, 2) := by decide +kernel
theorem o57_15 : zop 57 15 = some (.if_icmp .ge 17, 3) := by decide +kernel
theorem o57_18 : zop 57 18 = some (.aload_n 0, 1) := by decide +kernel
theorem o57_19 : zop 57 19 = some (.getfield 605, 3) := by decide +kernel
theorem o57_22 : zop 57 22 = some (.iload_n 1, 1) := by decide +kernel
theorem o57_23 : zop 57 23 = some (.bipush 10, 2) := by decide +kernel
theorem o57_25 : zop 57 25 = some (.iastore, 1) := by decide +kernel
theorem o57_26 : zop 57 26 = some (.iinc 1 1, 3) := by decide +kernel
theorem o57_29 : zop 57 29 = some (.goto (-17), 3) := by decide +kernel
theorem o57_32 : zop 57 32 = some (.return_, 1) := by decide +kernel
theorem o58_0 : zop 58 0 = some (.iconst 0, 1) := by decide +kernel
theorem o58_1 : zop 58 1 = some (.istore_n 1, 1) := by decide +kernel
theorem o58_2 : zop 58 2 = some (.iconst 0, 1) := by decide +kernel
theorem o58_3 : zop 58 3 = some (.istore_n 2, 1) := by decide +kernel
theorem o58_4 : zop 58 4 = some (.iload_n 2, 1) := by decide +kernel
theorem o58_5 : zop 58 5 = some (.aload_n 0, 1) := by decide +kernel
theorem o58_6 : zop 58 6 = some (.getfield 600, 3) := by decide +kernel
theorem o58_9 : zop 58 9 = some (.if_icmp .ge 18, 3) := by decide +kernel
theorem o58_12 : zop 58 12 = some (.iload_n 1, 1) := by decide +kernel
theorem o58_13 : zop 58 13 = some (.aload_n 0, 1) := by decide +kernel
theorem o58_14 : zop 58 14 = some (.iload_n 2, 1) := by decide +kernel
theorem o58_15 : zop 58 15 = some (.iconst 5, 1) := by decide +kernel
theorem o58_16 : zop 58 16 = some (.invokevirtual 55, 3) := by decide +kernel
theorem o58_19 : zop 58 19 = some (.iadd, 1) := by decide +kernel
theorem o58_20 : zop 58 20 = some (.istore_n 1, 1) := by decide +kernel
theorem o58_21 : zop 58 21 = some (.iinc 2 1, 3) := by decide +kernel
theorem o58_24 : zop 58 24 = some (.goto (-20), 3) := by decide +kernel
theorem o58_27 : zop 58 27 = some (.iload_n 1, 1) := by decide +kernel
theorem o58_28 : zop 58 28 = some (.ireturn, 1) := by decide +kernel
theorem o59_0 : zop 59 0 = some (.aload_n 0, 1) := by decide +kernel
theorem o59_1 : zop 59 1 = some (.getfield 605, 3) := by decide +kernel
theorem o59_4 : zop 59 4 = some (.aload_n 0, 1) := by decide +kernel
theorem o59_5 : zop 59 5 = some (.getfield 600, 3) := by decide +kernel
theorem o59_8 : zop 59 8 = some (.bipush 6, 2) := by decide +kernel
theorem o59_10 : zop 59 10 = some (.imul, 1) := by decide +kernel
theorem o59_11 : zop 59 11 = some (.iload_n 1, 1) := by decide +kernel
theorem o59_12 : zop 59 12 = some (.iadd, 1) := by decide +kernel
theorem o59_13 : zop 59 13 = some (.iaload, 1) := by decide +kernel
theorem o59_14 : zop 59 14 = some (.ireturn, 1) := by decide +kernel
theorem o60_0 : zop 60 0 = some (.aload_n 0, 1) := by decide +kernel
theorem o60_1 : zop 60 1 = some (.iload_n 2, 1) := by decide +kernel
theorem o60_2 : zop 60 2 = some (.iload_n 3, 1) := by decide +kernel
theorem o60_3 : zop 60 3 = some (.invokevirtual 61, 3) := by decide +kernel
theorem o60_6 : zop 60 6 = some (.istore 4, 2) := by decide +kernel
theorem o60_8 : zop 60 8 = some (.iload 4, 2) := by decide +kernel
theorem o60_10 : zop 60 10 = some (.iconst (-1), 1) := by decide +kernel
theorem o60_11 : zop 60 11 = some (.if_icmp .ne 12, 3) := by decide +kernel
theorem o60_14 : zop 60 14 = some (.aload_n 1, 1) := by decide +kernel
theorem o60_15 : zop 60 15 = some (.getfield 702, 3) := by decide +kernel
theorem o60_18 : zop 60 18 = some (.iload_n 2, 1) := by decide +kernel
theorem o60_19 : zop 60 19 = some (.iaload, 1) := by decide +kernel
theorem o60_20 : zop 60 20 = some (.goto 10, 3) := by decide +kernel
theorem o60_23 : zop 60 23 = some (.aload_n 0, 1) := by decide +kernel
theorem o60_24 : zop 60 24 = some (.iload 4, 2) := by decide +kernel
theorem o60_26 : zop 60 26 = some (.iconst 2, 1) := by decide +kernel
theorem o60_27 : zop 60 27 = some (.invokevirtual 55, 3) := by decide +kernel
theorem o60_30 : zop 60 30 = some (.ireturn, 1) := by decide +kernel
theorem o61_0 : zop 61 0 = some (.iload_n 2, 1) := by decide +kernel
theorem o61_1 : zop 61 1 = some (.iconst 1, 1) := by decide +kernel
theorem o61_2 : zop 61 2 = some (.isub, 1) := by decide +kernel
theorem o61_3 : zop 61 3 = some (.istore_n 3, 1) := by decide +kernel
theorem o61_4 : zop 61 4 = some (.iload_n 3, 1) := by decide +kernel
theorem o61_5 : zop 61 5 = some (.ifCond .lt 20, 3) := by decide +kernel
theorem o61_8 : zop 61 8 = some (.aload_n 0, 1) := by decide +kernel
theorem o61_9 : zop 61 9 = some (.iload_n 3, 1) := by decide +kernel
theorem o61_10 : zop 61 10 = some (.iload_n 1, 1) := by decide +kernel
theorem o61_11 : zop 61 11 = some (.invokevirtual 62, 3) := by decide +kernel
theorem o61_14 : zop 61 14 = some (.ifCond .eq 5, 3) := by decide +kernel
theorem o61_17 : zop 61 17 = some (.iload_n 3, 1) := by decide +kernel
theorem o61_18 : zop 61 18 = some (.ireturn, 1) := by decide +kernel
theorem o61_19 : zop 61 19 = some (.iinc 3 (-1), 3) := by decide +kernel
theorem o61_22 : zop 61 22 = some (.goto (-18), 3) := by decide +kernel
theorem o61_25 : zop 61 25 = some (.iconst (-1), 1) := by decide +kernel
theorem o61_26 : zop 61 26 = some (.ireturn, 1) := by decide +kernel
theorem o62_0 : zop 62 0 = some (.aload_n 0, 1) := by decide +kernel
theorem o62_1 : zop 62 1 = some (.getfield 603, 3) := by decide +kernel
theorem o62_4 : zop 62 4 = some (.iload_n 1, 1) := by decide +kernel
theorem o62_5 : zop 62 5 = some (.laload, 1) := by decide +kernel
theorem o62_6 : zop 62 6 = some (.iload_n 2, 1) := by decide +kernel
theorem o62_7 : zop 62 7 = some (.lushr, 1) := by decide +kernel
theorem o62_8 : zop 62 8 = some (.lconst 1, 1) := by decide +kernel
theorem o62_9 : zop 62 9 = some (.land, 1) := by decide +kernel
theorem o62_10 : zop 62 10 = some (.lconst 0, 1) := by decide +kernel
theorem o62_11 : zop 62 11 = some (.lcmp, 1) := by decide +kernel
theorem o62_12 : zop 62 12 = some (.ifCond .eq 7, 3) := by decide +kernel
theorem o62_15 : zop 62 15 = some (.iconst 1, 1) := by decide +kernel
theorem o62_16 : zop 62 16 = some (.goto 4, 3) := by decide +kernel
theorem o62_19 : zop 62 19 = some (.iconst 0, 1) := by decide +kernel
theorem o62_20 : zop 62 20 = some (.ireturn, 1) := by decide +kernel
theorem o63_0 : zop 63 0 = some (.iconst 1, 1) := by decide +kernel
theorem o63_1 : zop 63 1 = some (.aload_n 1, 1) := by decide +kernel
theorem o63_2 : zop 63 2 = some (.getfield 702, 3) := by decide +kernel
theorem o63_5 : zop 63 5 = some (.iload_n 2, 1) := by decide +kernel
theorem o63_6 : zop 63 6 = some (.iaload, 1) := by decide +kernel
theorem o63_7 : zop 63 7 = some (.ishl, 1) := by decide +kernel
theorem o63_8 : zop 63 8 = some (.istore_n 3, 1) := by decide +kernel
theorem o63_9 : zop 63 9 = some (.iconst 0, 1) := by decide +kernel
theorem o63_10 : zop 63 10 = some (.istore 4, 2) := by decide +kernel
theorem o63_12 : zop 63 12 = some (.iload 4, 2) := by decide +kernel
theorem o63_14 : zop 63 14 = some (.aload_n 0, 1) := by decide +kernel
theorem o63_15 : zop 63 15 = some (.getfield 600, 3) := by decide +kernel
theorem o63_18 : zop 63 18 = some (.if_icmp .ge 31, 3) := by decide +kernel
theorem o63_21 : zop 63 21 = some (.aload_n 0, 1) := by decide +kernel
theorem o63_22 : zop 63 22 = some (.iload 4, 2) := by decide +kernel
theorem o63_24 : zop 63 24 = some (.iload_n 2, 1) := by decide +kernel
theorem o63_25 : zop 63 25 = some (.invokevirtual 62, 3) := by decide +kernel
theorem o63_28 : zop 63 28 = some (.ifCond .eq 15, 3) := by decide +kernel
theorem o63_31 : zop 63 31 = some (.iload_n 3, 1) := by decide +kernel
theorem o63_32 : zop 63 32 = some (.iconst 1, 1) := by decide +kernel
theorem o63_33 : zop 63 33 = some (.aload_n 0, 1) := by decide +kernel
theorem o63_34 : zop 63 34 = some (.iload 4, 2) := by decide +kernel
theorem o63_36 : zop 63 36 = some (.iconst 2, 1) := by decide +kernel
theorem o63_37 : zop 63 37 = some (.invokevirtual 55, 3) := by decide +kernel
theorem o63_40 : zop 63 40 = some (.ishl, 1) := by decide +kernel
theorem o63_41 : zop 63 41 = some (.ior, 1) := by decide +kernel
theorem o63_42 : zop 63 42 = some (.istore_n 3, 1) := by decide +kernel
theorem o63_43 : zop 63 43 = some (.iinc 4 1, 3) := by decide +kernel
theorem o63_46 : zop 63 46 = some (.goto (-34), 3) := by decide +kernel
theorem o63_49 : zop 63 49 = some (.iload_n 3, 1) := by decide +kernel
theorem o63_50 : zop 63 50 = some (.ireturn, 1) := by decide +kernel
theorem o64_0 : zop 64 0 = some (.aload_n 0, 1) := by decide +kernel
theorem o64_1 : zop 64 1 = some (.getfield 600, 3) := by decide +kernel
theorem o64_4 : zop 64 4 = some (.bipush 6, 2) := by decide +kernel
theorem o64_6 : zop 64 6 = some (.imul, 1) := by decide +kernel
theorem o64_7 : zop 64 7 = some (.istore 5, 2) := by decide +kernel
theorem o64_9 : zop 64 9 = some (.aload_n 0, 1) := by decide +kernel
theorem o64_10 : zop 64 10 = some (.getfield 602, 3) := by decide +kernel
theorem o64_13 : zop 64 13 = some (.iload 5, 2) := by decide +kernel
theorem o64_15 : zop 64 15 = some (.iconst 0, 1) := by decide +kernel
theorem o64_16 : zop 64 16 = some (.iadd, 1) := by decide +kernel
theorem o64_17 : zop 64 17 = some (.aload_n 3, 1) := by decide +kernel
theorem o64_18 : zop 64 18 = some (.getfield 500, 3) := by decide +kernel
theorem o64_21 : zop 64 21 = some (.iastore, 1) := by decide +kernel
theorem o64_22 : zop 64 22 = some (.aload_n 0, 1) := by decide +kernel
theorem o64_23 : zop 64 23 = some (.getfield 602, 3) := by decide +kernel
theorem o64_26 : zop 64 26 = some (.iload 5, 2) := by decide +kernel
theorem o64_28 : zop 64 28 = some (.iconst 1, 1) := by decide +kernel
theorem o64_29 : zop 64 29 = some (.iadd, 1) := by decide +kernel
theorem o64_30 : zop 64 30 = some (.aload_n 3, 1) := by decide +kernel
theorem o64_31 : zop 64 31 = some (.getfield 501, 3) := by decide +kernel
theorem o64_34 : zop 64 34 = some (.iastore, 1) := by decide +kernel
theorem o64_35 : zop 64 35 = some (.aload_n 0, 1) := by decide +kernel
theorem o64_36 : zop 64 36 = some (.getfield 602, 3) := by decide +kernel
theorem o64_39 : zop 64 39 = some (.iload 5, 2) := by decide +kernel
theorem o64_41 : zop 64 41 = some (.iconst 2, 1) := by decide +kernel
theorem o64_42 : zop 64 42 = some (.iadd, 1) := by decide +kernel
theorem o64_43 : zop 64 43 = some (.aload_n 3, 1) := by decide +kernel
theorem o64_44 : zop 64 44 = some (.getfield 502, 3) := by decide +kernel
theorem o64_47 : zop 64 47 = some (.iastore, 1) := by decide +kernel
theorem o64_48 : zop 64 48 = some (.aload_n 0, 1) := by decide +kernel
theorem o64_49 : zop 64 49 = some (.getfield 602, 3) := by decide +kernel
theorem o64_52 : zop 64 52 = some (.iload 5, 2) := by decide +kernel
theorem o64_54 : zop 64 54 = some (.iconst 3, 1) := by decide +kernel
theorem o64_55 : zop 64 55 = some (.iadd, 1) := by decide +kernel
theorem o64_56 : zop 64 56 = some (.iload 4, 2) := by decide +kernel
theorem o64_58 : zop 64 58 = some (.iastore, 1) := by decide +kernel
theorem o64_59 : zop 64 59 = some (.aload_n 0, 1) := by decide +kernel
theorem o64_60 : zop 64 60 = some (.getfield 602, 3) := by decide +kernel
theorem o64_63 : zop 64 63 = some (.iload 5, 2) := by decide +kernel
theorem o64_65 : zop 64 65 = some (.iconst 4, 1) := by decide +kernel
theorem o64_66 : zop 64 66 = some (.iadd, 1) := by decide +kernel
theorem o64_67 : zop 64 67 = some (.aload_n 3, 1) := by decide +kernel
theorem o64_68 : zop 64 68 = some (.getfield 503, 3) := by decide +kernel
theorem o64_71 : zop 64 71 = some (.iastore, 1) := by decide +kernel
theorem o64_72 : zop 64 72 = some (.aload_n 0, 1) := by decide +kernel
theorem o64_73 : zop 64 73 = some (.getfield 602, 3) := by decide +kernel
theorem o64_76 : zop 64 76 = some (.iload 5, 2) := by decide +kernel
theorem o64_78 : zop 64 78 = some (.iconst 5, 1) := by decide +kernel
theorem o64_79 : zop 64 79 = some (.iadd, 1) := by decide +kernel
theorem o64_80 : zop 64 80 = some (.aload_n 0, 1) := by decide +kernel
theorem o64_81 : zop 64 81 = some (.aload_n 1, 1) := by decide +kernel
theorem o64_82 : zop 64 82 = some (.aload_n 2, 1) := by decide +kernel
theorem o64_83 : zop 64 83 = some (.aload_n 3, 1) := by decide +kernel
theorem o64_84 : zop 64 84 = some (.invokevirtual 65, 3) := by decide +kernel
theorem o64_87 : zop 64 87 = some (.iastore, 1) := by decide +kernel
theorem o64_88 : zop 64 88 = some (.aload_n 3, 1) := by decide +kernel
theorem o64_89 : zop 64 89 = some (.getfield 504, 3) := by decide +kernel
theorem o64_92 : zop 64 92 = some (.iconst 0, 1) := by decide +kernel
theorem o64_93 : zop 64 93 = some (.aload_n 0, 1) := by decide +kernel
theorem o64_94 : zop 64 94 = some (.getfield 604, 3) := by decide +kernel
theorem o64_97 : zop 64 97 = some (.aload_n 0, 1) := by decide +kernel
theorem o64_98 : zop 64 98 = some (.getfield 600, 3) := by decide +kernel
theorem o64_101 : zop 64 101 = some (.bipush 8, 2) := by decide +kernel
theorem o64_103 : zop 64 103 = some (.imul, 1) := by decide +kernel
theorem o64_104 : zop 64 104 = some (.bipush 8, 2) := by decide +kernel
theorem o64_106 : zop 64 106 = some (.invokestatic 1003, 3) := by decide +kernel
theorem o64_109 : zop 64 109 = some (.aload_n 0, 1) := by decide +kernel
theorem o64_110 : zop 64 110 = some (.dup, 1) := by decide +kernel
theorem o64_111 : zop 64 111 = some (.getfield 600, 3) := by decide +kernel
theorem o64_114 : zop 64 114 = some (.iconst 1, 1) := by decide +kernel
theorem o64_115 : zop 64 115 = some (.iadd, 1) := by decide +kernel
theorem o64_116 : zop 64 116 = some (.putfield 600, 3) := by decide +kernel
theorem o64_119 : zop 64 119 = some (.aload_n 0, 1) := by decide +kernel
theorem o64_120 : zop 64 120 = some (.aload_n 1, 1) := by decide +kernel
theorem o64_121 : zop 64 121 = some (.aload_n 2, 1) := by decide +kernel
theorem o64_122 : zop 64 122 = some (.invokevirtual 66, 3) := by decide +kernel
theorem o64_125 : zop 64 125 = some (.return_, 1) := by decide +kernel
theorem o65_0 : zop 65 0 = some (.aload_n 1, 1) := by decide +kernel
theorem o65_1 : zop 65 1 = some (.getfield 707, 3) := by decide +kernel
theorem o65_4 : zop 65 4 = some (.astore 4, 2) := by decide +kernel
theorem o65_6 : zop 65 6 = some (.aload 4, 2) := by decide +kernel
theorem o65_8 : zop 65 8 = some (.bipush (-3), 2) := by decide +kernel
theorem o65_10 : zop 65 10 = some (.aload_n 3, 1) := by decide +kernel
theorem o65_11 : zop 65 11 = some (.getfield 501, 3) := by decide +kernel
theorem o65_14 : zop 65 14 = some (.invokevirtual 43, 3) := by decide +kernel
theorem o65_17 : zop 65 17 = some (.aload 4, 2) := by decide +kernel
theorem o65_19 : zop 65 19 = some (.bipush (-4), 2) := by decide +kernel
theorem o65_21 : zop 65 21 = some (.aload_n 3, 1) := by decide +kernel
theorem o65_22 : zop 65 22 = some (.getfield 502, 3) := by decide +kernel
theorem o65_25 : zop 65 25 = some (.invokevirtual 43, 3) := by decide +kernel
theorem o65_28 : zop 65 28 = some (.aload 4, 2) := by decide +kernel
theorem o65_30 : zop 65 30 = some (.bipush (-5), 2) := by decide +kernel
theorem o65_32 : zop 65 32 = some (.aload_n 3, 1) := by decide +kernel
theorem o65_33 : zop 65 33 = some (.getfield 503, 3) := by decide +kernel
theorem o65_36 : zop 65 36 = some (.invokevirtual 43, 3) := by decide +kernel
theorem o65_39 : zop 65 39 = some (.aload 4, 2) := by decide +kernel
theorem o65_41 : zop 65 41 = some (.bipush (-6), 2) := by decide +kernel
theorem o65_43 : zop 65 43 = some (.aload_n 0, 1) := by decide +kernel
theorem o65_44 : zop 65 44 = some (.getfield 600, 3) := by decide +kernel
theorem o65_47 : zop 65 47 = some (.invokevirtual 43, 3) := by decide +kernel
theorem o65_50 : zop 65 50 = some (.iconst 0, 1) := by decide +kernel
theorem o65_51 : zop 65 51 = some (.istore 5, 2) := by decide +kernel
theorem o65_53 : zop 65 53 = some (.aload_n 0, 1) := by decide +kernel
theorem o65_54 : zop 65 54 = some (.getfield 603, 3) := by decide +kernel
theorem o65_57 : zop 65 57 = some (.aload_n 0, 1) := by decide +kernel
theorem o65_58 : zop 65 58 = some (.getfield 600, 3) := by decide +kernel
theorem o65_61 : zop 65 61 = some (.lconst 0, 1) := by decide +kernel
theorem o65_62 : zop 65 62 = some (.lastore, 1) := by decide +kernel
theorem o65_63 : zop 65 63 = some (.aload_n 2, 1) := by decide +kernel
theorem o65_64 : zop 65 64 = some (.getfield 200, 3) := by decide +kernel
theorem o65_67 : zop 65 67 = some (.aload_n 3, 1) := by decide +kernel
theorem o65_68 : zop 65 68 = some (.getfield 502, 3) := by decide +kernel
theorem o65_71 : zop 65 71 = some (.iaload, 1) := by decide +kernel
theorem o65_72 : zop 65 72 = some (.istore 6, 2) := by decide +kernel
theorem o65_74 : zop 65 74 = some (.iconst 0, 1) := by decide +kernel
theorem o65_75 : zop 65 75 = some (.iload 6, 2) := by decide +kernel
theorem o65_77 : zop 65 77 = some (.aload_n 3, 1) := by decide +kernel
theorem o65_78 : zop 65 78 = some (.getfield 503, 3) := by decide +kernel
theorem o65_81 : zop 65 81 = some (.isub, 1) := by decide +kernel
theorem o65_82 : zop 65 82 = some (.invokestatic 1002, 3) := by decide +kernel
theorem o65_85 : zop 65 85 = some (.istore 7, 2) := by decide +kernel
theorem o65_87 : zop 65 87 = some (.iload 7, 2) := by decide +kernel
theorem o65_89 : zop 65 89 = some (.iload 6, 2) := by decide +kernel
theorem o65_91 : zop 65 91 = some (.if_icmp .ge 74, 3) := by decide +kernel
theorem o65_94 : zop 65 94 = some (.aload_n 2, 1) := by decide +kernel
theorem o65_95 : zop 65 95 = some (.aload_n 3, 1) := by decide +kernel
theorem o65_96 : zop 65 96 = some (.getfield 502, 3) := by decide +kernel
theorem o65_99 : zop 65 99 = some (.iload 7, 2) := by decide +kernel
theorem o65_101 : zop 65 101 = some (.invokevirtual 24, 3) := by decide +kernel
theorem o65_104 : zop 65 104 = some (.istore 8, 2) := by decide +kernel
theorem o65_106 : zop 65 106 = some (.aload_n 0, 1) := by decide +kernel
theorem o65_107 : zop 65 107 = some (.getfield 603, 3) := by decide +kernel
theorem o65_110 : zop 65 110 = some (.aload_n 0, 1) := by decide +kernel
theorem o65_111 : zop 65 111 = some (.getfield 600, 3) := by decide +kernel
theorem o65_114 : zop 65 114 = some (.dup2, 1) := by decide +kernel
theorem o65_115 : zop 65 115 = some (.laload, 1) := by decide +kernel
theorem o65_116 : zop 65 116 = some (.lconst 1, 1) := by decide +kernel
theorem o65_117 : zop 65 117 = some (.iload 8, 2) := by decide +kernel
theorem o65_119 : zop 65 119 = some (.lshl, 1) := by decide +kernel
theorem o65_120 : zop 65 120 = some (.lor, 1) := by decide +kernel
theorem o65_121 : zop 65 121 = some (.lastore, 1) := by decide +kernel
theorem o65_122 : zop 65 122 = some (.aload 4, 2) := by decide +kernel
theorem o65_124 : zop 65 124 = some (.iconst (-1), 1) := by decide +kernel
theorem o65_125 : zop 65 125 = some (.aload_n 1, 1) := by decide +kernel
theorem o65_126 : zop 65 126 = some (.getfield 703, 3) := by decide +kernel
theorem o65_129 : zop 65 129 = some (.iload 8, 2) := by decide +kernel
theorem o65_131 : zop 65 131 = some (.iaload, 1) := by decide +kernel
theorem o65_132 : zop 65 132 = some (.invokevirtual 43, 3) := by decide +kernel
theorem o65_135 : zop 65 135 = some (.aload 4, 2) := by decide +kernel
theorem o65_137 : zop 65 137 = some (.bipush (-2), 2) := by decide +kernel
theorem o65_139 : zop 65 139 = some (.aload_n 1, 1) := by decide +kernel
theorem o65_140 : zop 65 140 = some (.getfield 702, 3) := by decide +kernel
theorem o65_143 : zop 65 143 = some (.iload 8, 2) := by decide +kernel
theorem o65_145 : zop 65 145 = some (.iaload, 1) := by decide +kernel
theorem o65_146 : zop 65 146 = some (.invokevirtual 43, 3) := by decide +kernel
theorem o65_149 : zop 65 149 = some (.iload 5, 2) := by decide +kernel
theorem o65_151 : zop 65 151 = some (.aload 4, 2) := by decide +kernel
theorem o65_153 : zop 65 153 = some (.invokevirtual 44, 3) := by decide +kernel
theorem o65_156 : zop 65 156 = some (.iadd, 1) := by decide +kernel
theorem o65_157 : zop 65 157 = some (.istore 5, 2) := by decide +kernel
theorem o65_159 : zop 65 159 = some (.iinc 7 1, 3) := by decide +kernel
theorem o65_162 : zop 65 162 = some (.goto (-75), 3) := by decide +kernel
theorem o65_165 : zop 65 165 = some (.iload 5, 2) := by decide +kernel
theorem o65_167 : zop 65 167 = some (.ireturn, 1) := by decide +kernel
theorem o66_0 : zop 66 0 = some (.aload_n 0, 1) := by decide +kernel
theorem o66_1 : zop 66 1 = some (.getfield 600, 3) := by decide +kernel
theorem o66_4 : zop 66 4 = some (.bipush 6, 2) := by decide +kernel
theorem o66_6 : zop 66 6 = some (.imul, 1) := by decide +kernel
theorem o66_7 : zop 66 7 = some (.istore_n 3, 1) := by decide +kernel
theorem o66_8 : zop 66 8 = some (.iconst 0, 1) := by decide +kernel
theorem o66_9 : zop 66 9 = some (.istore 4, 2) := by decide +kernel
theorem o66_11 : zop 66 11 = some (.iload 4, 2) := by decide +kernel
theorem o66_13 : zop 66 13 = some (.aload_n 1, 1) := by decide +kernel
theorem o66_14 : zop 66 14 = some (.getfield 708, 3) := by decide +kernel
theorem o66_17 : zop 66 17 = some (.if_icmp .ge 92, 3) := by decide +kernel
theorem o66_20 : zop 66 20 = some (.aload_n 0, 1) := by decide +kernel
theorem o66_21 : zop 66 21 = some (.getfield 605, 3) := by decide +kernel
theorem o66_24 : zop 66 24 = some (.iload_n 3, 1) := by decide +kernel
theorem o66_25 : zop 66 25 = some (.bipush 6, 2) := by decide +kernel
theorem o66_27 : zop 66 27 = some (.isub, 1) := by decide +kernel
theorem o66_28 : zop 66 28 = some (.iload 4, 2) := by decide +kernel
theorem o66_30 : zop 66 30 = some (.iadd, 1) := by decide +kernel
theorem o66_31 : zop 66 31 = some (.iaload, 1) := by decide +kernel
theorem o66_32 : zop 66 32 = some (.istore 5, 2) := by decide +kernel
theorem o66_34 : zop 66 34 = some (.aload_n 2, 1) := by decide +kernel
theorem o66_35 : zop 66 35 = some (.getfield 200, 3) := by decide +kernel
theorem o66_38 : zop 66 38 = some (.iload 4, 2) := by decide +kernel
theorem o66_40 : zop 66 40 = some (.iaload, 1) := by decide +kernel
theorem o66_41 : zop 66 41 = some (.aload_n 1, 1) := by decide +kernel
theorem o66_42 : zop 66 42 = some (.getfield 700, 3) := by decide +kernel
theorem o66_45 : zop 66 45 = some (.iload 4, 2) := by decide +kernel
theorem o66_47 : zop 66 47 = some (.iaload, 1) := by decide +kernel
theorem o66_48 : zop 66 48 = some (.if_icmp .ge 17, 3) := by decide +kernel
theorem o66_51 : zop 66 51 = some (.bipush 99, 2) := by decide +kernel
theorem o66_53 : zop 66 53 = some (.iload 5, 2) := by decide +kernel
theorem o66_55 : zop 66 55 = some (.iconst 1, 1) := by decide +kernel
theorem o66_56 : zop 66 56 = some (.iadd, 1) := by decide +kernel
theorem o66_57 : zop 66 57 = some (.invokestatic 1001, 3) := by decide +kernel
theorem o66_60 : zop 66 60 = some (.istore 5, 2) := by decide +kernel
theorem o66_62 : zop 66 62 = some (.goto 30, 3) := by decide +kernel
theorem o66_65 : zop 66 65 = some (.aload_n 2, 1) := by decide +kernel
theorem o66_66 : zop 66 66 = some (.getfield 200, 3) := by decide +kernel
theorem o66_69 : zop 66 69 = some (.iload 4, 2) := by decide +kernel
theorem o66_71 : zop 66 71 = some (.iaload, 1) := by decide +kernel
theorem o66_72 : zop 66 72 = some (.aload_n 1, 1) := by decide +kernel
theorem o66_73 : zop 66 73 = some (.getfield 700, 3) := by decide +kernel
theorem o66_76 : zop 66 76 = some (.iload 4, 2) := by decide +kernel
theorem o66_78 : zop 66 78 = some (.iaload, 1) := by decide +kernel
theorem o66_79 : zop 66 79 = some (.if_icmp .le 13, 3) := by decide +kernel
theorem o66_82 : zop 66 82 = some (.iconst 0, 1) := by decide +kernel
theorem o66_83 : zop 66 83 = some (.iload 5, 2) := by decide +kernel
theorem o66_85 : zop 66 85 = some (.iconst 1, 1) := by decide +kernel
theorem o66_86 : zop 66 86 = some (.isub, 1) := by decide +kernel
theorem o66_87 : zop 66 87 = some (.invokestatic 1002, 3) := by decide +kernel
theorem o66_90 : zop 66 90 = some (.istore 5, 2) := by decide +kernel
theorem o66_92 : zop 66 92 = some (.aload_n 0, 1) := by decide +kernel
theorem o66_93 : zop 66 93 = some (.getfield 605, 3) := by decide +kernel
theorem o66_96 : zop 66 96 = some (.iload_n 3, 1) := by decide +kernel
theorem o66_97 : zop 66 97 = some (.iload 4, 2) := by decide +kernel
theorem o66_99 : zop 66 99 = some (.iadd, 1) := by decide +kernel
theorem o66_100 : zop 66 100 = some (.iload 5, 2) := by decide +kernel
theorem o66_102 : zop 66 102 = some (.iastore, 1) := by decide +kernel
theorem o66_103 : zop 66 103 = some (.iinc 4 1, 3) := by decide +kernel
theorem o66_106 : zop 66 106 = some (.goto (-95), 3) := by decide +kernel
theorem o66_109 : zop 66 109 = some (.return_, 1) := by decide +kernel
theorem o67_0 : zop 67 0 = some (.iconst 0, 1) := by decide +kernel
theorem o67_1 : zop 67 1 = some (.istore_n 3, 1) := by decide +kernel
theorem o67_2 : zop 67 2 = some (.iconst 0, 1) := by decide +kernel
theorem o67_3 : zop 67 3 = some (.istore 4, 2) := by decide +kernel
theorem o67_5 : zop 67 5 = some (.iload 4, 2) := by decide +kernel
theorem o67_7 : zop 67 7 = some (.aload_n 0, 1) := by decide +kernel
theorem o67_8 : zop 67 8 = some (.getfield 600, 3) := by decide +kernel
theorem o67_11 : zop 67 11 = some (.if_icmp .ge 41, 3) := by decide +kernel
theorem o67_14 : zop 67 14 = some (.aload_n 0, 1) := by decide +kernel
theorem o67_15 : zop 67 15 = some (.iload 4, 2) := by decide +kernel
theorem o67_17 : zop 67 17 = some (.iconst 1, 1) := by decide +kernel
theorem o67_18 : zop 67 18 = some (.invokevirtual 55, 3) := by decide +kernel
theorem o67_21 : zop 67 21 = some (.iload_n 1, 1) := by decide +kernel
theorem o67_22 : zop 67 22 = some (.if_icmp .ne 24, 3) := by decide +kernel
theorem o67_25 : zop 67 25 = some (.aload_n 0, 1) := by decide +kernel
theorem o67_26 : zop 67 26 = some (.iload 4, 2) := by decide +kernel
theorem o67_28 : zop 67 28 = some (.iconst 2, 1) := by decide +kernel
theorem o67_29 : zop 67 29 = some (.invokevirtual 55, 3) := by decide +kernel
theorem o67_32 : zop 67 32 = some (.iload_n 2, 1) := by decide +kernel
theorem o67_33 : zop 67 33 = some (.if_icmp .ne 13, 3) := by decide +kernel
theorem o67_36 : zop 67 36 = some (.iload_n 3, 1) := by decide +kernel
theorem o67_37 : zop 67 37 = some (.aload_n 0, 1) := by decide +kernel
theorem o67_38 : zop 67 38 = some (.iload 4, 2) := by decide +kernel
theorem o67_40 : zop 67 40 = some (.iconst 4, 1) := by decide +kernel
theorem o67_41 : zop 67 41 = some (.invokevirtual 55, 3) := by decide +kernel
theorem o67_44 : zop 67 44 = some (.iadd, 1) := by decide +kernel
theorem o67_45 : zop 67 45 = some (.istore_n 3, 1) := by decide +kernel
theorem o67_46 : zop 67 46 = some (.iinc 4 1, 3) := by decide +kernel
theorem o67_49 : zop 67 49 = some (.goto (-44), 3) := by decide +kernel
theorem o67_52 : zop 67 52 = some (.iload_n 3, 1) := by decide +kernel
theorem o67_53 : zop 67 53 = some (.ireturn, 1) := by decide +kernel
theorem o68_0 : zop 68 0 = some (.iconst 0, 1) := by decide +kernel
theorem o68_1 : zop 68 1 = some (.istore 4, 2) := by decide +kernel
theorem o68_3 : zop 68 3 = some (.iload 4, 2) := by decide +kernel
theorem o68_5 : zop 68 5 = some (.aload_n 0, 1) := by decide +kernel
theorem o68_6 : zop 68 6 = some (.getfield 600, 3) := by decide +kernel
theorem o68_9 : zop 68 9 = some (.if_icmp .gt 31, 3) := by decide +kernel
theorem o68_12 : zop 68 12 = some (.aload_n 0, 1) := by decide +kernel
theorem o68_13 : zop 68 13 = some (.aload_n 1, 1) := by decide +kernel
theorem o68_14 : zop 68 14 = some (.iload_n 2, 1) := by decide +kernel
theorem o68_15 : zop 68 15 = some (.iload 4, 2) := by decide +kernel
theorem o68_17 : zop 68 17 = some (.invokevirtual 60, 3) := by decide +kernel
theorem o68_20 : zop 68 20 = some (.aload_n 0, 1) := by decide +kernel
theorem o68_21 : zop 68 21 = some (.aload_n 1, 1) := by decide +kernel
theorem o68_22 : zop 68 22 = some (.iload_n 3, 1) := by decide +kernel
theorem o68_23 : zop 68 23 = some (.iload 4, 2) := by decide +kernel
theorem o68_25 : zop 68 25 = some (.invokevirtual 60, 3) := by decide +kernel
theorem o68_28 : zop 68 28 = some (.if_icmp .ne 6, 3) := by decide +kernel
theorem o68_31 : zop 68 31 = some (.iload 4, 2) := by decide +kernel
theorem o68_33 : zop 68 33 = some (.ireturn, 1) := by decide +kernel
theorem o68_34 : zop 68 34 = some (.iinc 4 1, 3) := by decide +kernel
theorem o68_37 : zop 68 37 = some (.goto (-34), 3) := by decide +kernel
theorem o68_40 : zop 68 40 = some (.iconst (-1), 1) := by decide +kernel
theorem o68_41 : zop 68 41 = some (.ireturn, 1) := by decide +kernel
theorem o69_0 : zop 69 0 = some (.aload_n 0, 1) := by decide +kernel
theorem o69_1 : zop 69 1 = some (.iload_n 1, 1) := by decide +kernel
theorem o69_2 : zop 69 2 = some (.iconst 1, 1) := by decide +kernel
theorem o69_3 : zop 69 3 = some (.invokevirtual 55, 3) := by decide +kernel
theorem o69_6 : zop 69 6 = some (.iload_n 2, 1) := by decide +kernel
theorem o69_7 : zop 69 7 = some (.if_icmp .ne 16, 3) := by decide +kernel
theorem o69_10 : zop 69 10 = some (.aload_n 0, 1) := by decide +kernel
theorem o69_11 : zop 69 11 = some (.iload_n 1, 1) := by decide +kernel
theorem o69_12 : zop 69 12 = some (.iconst 4, 1) := by decide +kernel
theorem o69_13 : zop 69 13 = some (.invokevirtual 55, 3) := by decide +kernel
theorem o69_16 : zop 69 16 = some (.ifCond .le 7, 3) := by decide +kernel
theorem o69_19 : zop 69 19 = some (.iconst 1, 1) := by decide +kernel
theorem o69_20 : zop 69 20 = some (.goto 4, 3) := by decide +kernel
theorem o69_23 : zop 69 23 = some (.iconst 0, 1) := by decide +kernel
theorem o69_24 : zop 69 24 = some (.ireturn, 1) := by decide +kernel
theorem o70_0 : zop 70 0 = some (.aload_n 0, 1) := by decide +kernel
theorem o70_1 : zop 70 1 = some (.invokespecial 1000, 3) := by decide +kernel
theorem o70_4 : zop 70 4 = some (.aload_n 0, 1) := by decide +kernel
theorem o70_5 : zop 70 5 = some (.bipush 6, 2) := by decide +kernel
theorem o70_7 : zop 70 7 = some (.newarray .int, 2) := by decide +kernel
theorem o70_9 : zop 70 9 = some (.putfield 700, 3) := by decide +kernel
theorem o70_12 : zop 70 12 = some (.aload_n 0, 1) := by decide +kernel
theorem o70_13 : zop 70 13 = some (.bipush 6, 2) := by decide +kernel
theorem o70_15 : zop 70 15 = some (.newarray .int, 2) := by decide +kernel
theorem o70_17 : zop 70 17 = some (.putfield 701, 3) := by decide +kernel
theorem o70_20 : zop 70 20 = some (.aload_n 0, 1) := by decide +kernel
theorem o70_21 : zop 70 21 = some (.bipush 40, 2) := by decide +kernel
theorem o70_23 : zop 70 23 = some (.newarray .int, 2) := by decide +kernel
theorem o70_25 : zop 70 25 = some (.putfield 702, 3) := by decide +kernel
theorem o70_28 : zop 70 28 = some (.aload_n 0, 1) := by decide +kernel
theorem o70_29 : zop 70 29 = some (.bipush 40, 2) := by decide +kernel
theorem o70_31 : zop 70 31 = some (.newarray .int, 2) := by decide +kernel
theorem o70_33 : zop 70 33 = some (.putfield 703, 3) := by decide +kernel
theorem o70_36 : zop 70 36 = some (.aload_n 0, 1) := by decide +kernel
theorem o70_37 : zop 70 37 = some (.iconst 5, 1) := by decide +kernel
theorem o70_38 : zop 70 38 = some (.newarray .int, 2) := by decide +kernel
theorem o70_40 : zop 70 40 = some (.putfield 704, 3) := by decide +kernel
theorem o70_43 : zop 70 43 = some (.aload_n 0, 1) := by decide +kernel
theorem o70_44 : zop 70 44 = some (.iconst 5, 1) := by decide +kernel
theorem o70_45 : zop 70 45 = some (.newarray .int, 2) := by decide +kernel
theorem o70_47 : zop 70 47 = some (.putfield 705, 3) := by decide +kernel
theorem o70_50 : zop 70 50 = some (.aload_n 0, 1) := by decide +kernel
theorem o70_51 : zop 70 51 = some (.iconst 5, 1) := by decide +kernel
theorem o70_52 : zop 70 52 = some (.newarray .int, 2) := by decide +kernel
theorem o70_54 : zop 70 54 = some (.putfield 706, 3) := by decide +kernel
theorem o70_57 : zop 70 57 = some (.aload_n 0, 1) := by decide +kernel
theorem o70_58 : zop 70 58 = some (.new 4, 3) := by decide +kernel
theorem o70_61 : zop 70 61 = some (.dup, 1) := by decide +kernel
theorem o70_62 : zop 70 62 = some (.invokespecial 2040, 3) := by decide +kernel
theorem o70_65 : zop 70 65 = some (.putfield 707, 3) := by decide +kernel
theorem o70_68 : zop 70 68 = some (.aload_n 0, 1) := by decide +kernel
theorem o70_69 : zop 70 69 = some (.iconst 0, 1) := by decide +kernel
theorem o70_70 : zop 70 70 = some (.putfield 708, 3) := by decide +kernel
theorem o70_73 : zop 70 73 = some (.aload_n 0, 1) := by decide +kernel
theorem o70_74 : zop 70 74 = some (.iconst 0, 1) := by decide +kernel
theorem o70_75 : zop 70 75 = some (.putfield 709, 3) := by decide +kernel
theorem o70_78 : zop 70 78 = some (.aload_n 0, 1) := by decide +kernel
theorem o70_79 : zop 70 79 = some (.iconst 0, 1) := by decide +kernel
theorem o70_80 : zop 70 80 = some (.putfield 710, 3) := by decide +kernel
theorem o70_83 : zop 70 83 = some (.return_, 1) := by decide +kernel
theorem o71_0 : zop 71 0 = some (.aload_n 0, 1) := by decide +kernel
theorem o71_1 : zop 71 1 = some (.getfield 705, 3) := by decide +kernel
theorem o71_4 : zop 71 4 = some (.iload_n 1, 1) := by decide +kernel
theorem o71_5 : zop 71 5 = some (.iaload, 1) := by decide +kernel
theorem o71_6 : zop 71 6 = some (.iload_n 2, 1) := by decide +kernel
theorem o71_7 : zop 71 7 = some (.isub, 1) := by decide +kernel
theorem o71_8 : zop 71 8 = some (.istore_n 3, 1) := by decide +kernel
theorem o71_9 : zop 71 9 = some (.aload_n 0, 1) := by decide +kernel
theorem o71_10 : zop 71 10 = some (.getfield 704, 3) := by decide +kernel
theorem o71_13 : zop 71 13 = some (.iload_n 1, 1) := by decide +kernel
theorem o71_14 : zop 71 14 = some (.iaload, 1) := by decide +kernel
theorem o71_15 : zop 71 15 = some (.iconst 3, 1) := by decide +kernel
theorem o71_16 : zop 71 16 = some (.if_icmp .ne 9, 3) := by decide +kernel
theorem o71_19 : zop 71 19 = some (.iload_n 3, 1) := by decide +kernel
theorem o71_20 : zop 71 20 = some (.iconst 2, 1) := by decide +kernel
theorem o71_21 : zop 71 21 = some (.idiv, 1) := by decide +kernel
theorem o71_22 : zop 71 22 = some (.goto 4, 3) := by decide +kernel
theorem o71_25 : zop 71 25 = some (.iload_n 3, 1) := by decide +kernel
theorem o71_26 : zop 71 26 = some (.ireturn, 1) := by decide +kernel
theorem o72_0 : zop 72 0 = some (.aload_n 0, 1) := by decide +kernel
theorem o72_1 : zop 72 1 = some (.iconst 0, 1) := by decide +kernel
theorem o72_2 : zop 72 2 = some (.putfield 708, 3) := by decide +kernel
theorem o72_5 : zop 72 5 = some (.aload_n 0, 1) := by decide +kernel
theorem o72_6 : zop 72 6 = some (.iconst 0, 1) := by decide +kernel
theorem o72_7 : zop 72 7 = some (.putfield 709, 3) := by decide +kernel
theorem o72_10 : zop 72 10 = some (.aload_n 0, 1) := by decide +kernel
theorem o72_11 : zop 72 11 = some (.iconst 0, 1) := by decide +kernel
theorem o72_12 : zop 72 12 = some (.putfield 710, 3) := by decide +kernel
theorem o72_15 : zop 72 15 = some (.aload_n 0, 1) := by decide +kernel
theorem o72_16 : zop 72 16 = some (.getfield 707, 3) := by decide +kernel
theorem o72_19 : zop 72 19 = some (.iconst 0, 1) := by decide +kernel
theorem o72_20 : zop 72 20 = some (.putfield 403, 3) := by decide +kernel
theorem o72_23 : zop 72 23 = some (.return_, 1) := by decide +kernel
theorem o73_0 : zop 73 0 = some (.aload_n 0, 1) := by decide +kernel
theorem o73_1 : zop 73 1 = some (.getfield 708, 3) := by decide +kernel
theorem o73_4 : zop 73 4 = some (.bipush 6, 2) := by decide +kernel
theorem o73_6 : zop 73 6 = some (.if_icmp .ge 33, 3) := by decide +kernel
theorem o73_9 : zop 73 9 = some (.aload_n 0, 1) := by decide +kernel
theorem o73_10 : zop 73 10 = some (.getfield 700, 3) := by decide +kernel
theorem o73_13 : zop 73 13 = some (.aload_n 0, 1) := by decide +kernel
theorem o73_14 : zop 73 14 = some (.getfield 708, 3) := by decide +kernel
theorem o73_17 : zop 73 17 = some (.iload_n 1, 1) := by decide +kernel
theorem o73_18 : zop 73 18 = some (.iastore, 1) := by decide +kernel
theorem o73_19 : zop 73 19 = some (.aload_n 0, 1) := by decide +kernel
theorem o73_20 : zop 73 20 = some (.getfield 701, 3) := by decide +kernel
theorem o73_23 : zop 73 23 = some (.aload_n 0, 1) := by decide +kernel
theorem o73_24 : zop 73 24 = some (.getfield 708, 3) := by decide +kernel
theorem o73_27 : zop 73 27 = some (.iload_n 2, 1) := by decide +kernel
theorem o73_28 : zop 73 28 = some (.iastore, 1) := by decide +kernel
theorem o73_29 : zop 73 29 = some (.aload_n 0, 1) := by decide +kernel
theorem o73_30 : zop 73 30 = some (.dup, 1) := by decide +kernel
theorem o73_31 : zop 73 31 = some (.getfield 708, 3) := by decide +kernel
theorem o73_34 : zop 73 34 = some (.iconst 1, 1) := by decide +kernel
theorem o73_35 : zop 73 35 = some (.iadd, 1) := by decide +kernel
theorem o73_36 : zop 73 36 = some (.putfield 708, 3) := by decide +kernel
theorem o73_39 : zop 73 39 = some (.return_, 1) := by decide +kernel
theorem o74_0 : zop 74 0 = some (.iconst 0, 1) := by decide +kernel
theorem o74_1 : zop 74 1 = some (.istore 4, 2) := by decide +kernel
theorem o74_3 : zop 74 3 = some (.iload 4, 2) := by decide +kernel
theorem o74_5 : zop 74 5 = some (.iload_n 2, 1) := by decide +kernel
theorem o74_6 : zop 74 6 = some (.if_icmp .ge 48, 3) := by decide +kernel
theorem o74_9 : zop 74 9 = some (.aload_n 0, 1) := by decide +kernel
theorem o74_10 : zop 74 10 = some (.getfield 709, 3) := by decide +kernel
theorem o74_13 : zop 74 13 = some (.bipush 40, 2) := by decide +kernel
theorem o74_15 : zop 74 15 = some (.if_icmp .ge 39, 3) := by decide +kernel
theorem o74_18 : zop 74 18 = some (.aload_n 0, 1) := by decide +kernel
theorem o74_19 : zop 74 19 = some (.getfield 702, 3) := by decide +kernel
theorem o74_22 : zop 74 22 = some (.aload_n 0, 1) := by decide +kernel
theorem o74_23 : zop 74 23 = some (.getfield 709, 3) := by decide +kernel
theorem o74_26 : zop 74 26 = some (.iload_n 1, 1) := by decide +kernel
theorem o74_27 : zop 74 27 = some (.iastore, 1) := by decide +kernel
theorem o74_28 : zop 74 28 = some (.aload_n 0, 1) := by decide +kernel
theorem o74_29 : zop 74 29 = some (.getfield 703, 3) := by decide +kernel
theorem o74_32 : zop 74 32 = some (.aload_n 0, 1) := by decide +kernel
theorem o74_33 : zop 74 33 = some (.getfield 709, 3) := by decide +kernel
theorem o74_36 : zop 74 36 = some (.iload_n 3, 1) := by decide +kernel
theorem o74_37 : zop 74 37 = some (.iastore, 1) := by decide +kernel
theorem o74_38 : zop 74 38 = some (.aload_n 0, 1) := by decide +kernel
theorem o74_39 : zop 74 39 = some (.dup, 1) := by decide +kernel
theorem o74_40 : zop 74 40 = some (.getfield 709, 3) := by decide +kernel
theorem o74_43 : zop 74 43 = some (.iconst 1, 1) := by decide +kernel
theorem o74_44 : zop 74 44 = some (.iadd, 1) := by decide +kernel
theorem o74_45 : zop 74 45 = some (.putfield 709, 3) := by decide +kernel
theorem o74_48 : zop 74 48 = some (.iinc 4 1, 3) := by decide +kernel
theorem o74_51 : zop 74 51 = some (.goto (-48), 3) := by decide +kernel
theorem o74_54 : zop 74 54 = some (.return_, 1) := by decide +kernel
theorem o75_0 : zop 75 0 = some (.aload_n 0, 1) := by decide +kernel
theorem o75_1 : zop 75 1 = some (.getfield 710, 3) := by decide +kernel
theorem o75_4 : zop 75 4 = some (.iconst 5, 1) := by decide +kernel
theorem o75_5 : zop 75 5 = some (.if_icmp .ge 43, 3) := by decide +kernel
theorem o75_8 : zop 75 8 = some (.aload_n 0, 1) := by decide +kernel
theorem o75_9 : zop 75 9 = some (.getfield 704, 3) := by decide +kernel
theorem o75_12 : zop 75 12 = some (.aload_n 0, 1) := by decide +kernel
theorem o75_13 : zop 75 13 = some (.getfield 710, 3) := by decide +kernel
theorem o75_16 : zop 75 16 = some (.iload_n 1, 1) := by decide +kernel
theorem o75_17 : zop 75 17 = some (.iastore, 1) := by decide +kernel
theorem o75_18 : zop 75 18 = some (.aload_n 0, 1) := by decide +kernel
theorem o75_19 : zop 75 19 = some (.getfield 705, 3) := by decide +kernel
theorem o75_22 : zop 75 22 = some (.aload_n 0, 1) := by decide +kernel
theorem o75_23 : zop 75 23 = some (.getfield 710, 3) := by decide +kernel
theorem o75_26 : zop 75 26 = some (.iload_n 2, 1) := by decide +kernel
theorem o75_27 : zop 75 27 = some (.iastore, 1) := by decide +kernel
theorem o75_28 : zop 75 28 = some (.aload_n 0, 1) := by decide +kernel
theorem o75_29 : zop 75 29 = some (.getfield 706, 3) := by decide +kernel
theorem o75_32 : zop 75 32 = some (.aload_n 0, 1) := by decide +kernel
theorem o75_33 : zop 75 33 = some (.getfield 710, 3) := by decide +kernel
theorem o75_36 : zop 75 36 = some (.iload_n 3, 1) := by decide +kernel
theorem o75_37 : zop 75 37 = some (.iastore, 1) := by decide +kernel
theorem o75_38 : zop 75 38 = some (.aload_n 0, 1) := by decide +kernel
theorem o75_39 : zop 75 39 = some (.dup, 1) := by decide +kernel
theorem o75_40 : zop 75 40 = some (.getfield 710, 3) := by decide +kernel
theorem o75_43 : zop 75 43 = some (.iconst 1, 1) := by decide +kernel
theorem o75_44 : zop 75 44 = some (.iadd, 1) := by decide +kernel
theorem o75_45 : zop 75 45 = some (.putfield 710, 3) := by decide +kernel
theorem o75_48 : zop 75 48 = some (.return_, 1) := by decide +kernel
theorem o76_0 : zop 76 0 = some (.aload_n 1, 1) := by decide +kernel
theorem o76_1 : zop 76 1 = some (.getfield 700, 3) := by decide +kernel
theorem o76_4 : zop 76 4 = some (.iconst 0, 1) := by decide +kernel
theorem o76_5 : zop 76 5 = some (.aload_n 0, 1) := by decide +kernel
theorem o76_6 : zop 76 6 = some (.getfield 700, 3) := by decide +kernel
theorem o76_9 : zop 76 9 = some (.iconst 0, 1) := by decide +kernel
theorem o76_10 : zop 76 10 = some (.bipush 6, 2) := by decide +kernel
theorem o76_12 : zop 76 12 = some (.invokestatic 1003, 3) := by decide +kernel
theorem o76_15 : zop 76 15 = some (.aload_n 1, 1) := by decide +kernel
theorem o76_16 : zop 76 16 = some (.getfield 701, 3) := by decide +kernel
theorem o76_19 : zop 76 19 = some (.iconst 0, 1) := by decide +kernel
theorem o76_20 : zop 76 20 = some (.aload_n 0, 1) := by decide +kernel
theorem o76_21 : zop 76 21 = some (.getfield 701, 3) := by decide +kernel
theorem o76_24 : zop 76 24 = some (.iconst 0, 1) := by decide +kernel
theorem o76_25 : zop 76 25 = some (.bipush 6, 2) := by decide +kernel
theorem o76_27 : zop 76 27 = some (.invokestatic 1003, 3) := by decide +kernel
theorem o76_30 : zop 76 30 = some (.aload_n 1, 1) := by decide +kernel
theorem o76_31 : zop 76 31 = some (.getfield 702, 3) := by decide +kernel
theorem o76_34 : zop 76 34 = some (.iconst 0, 1) := by decide +kernel
theorem o76_35 : zop 76 35 = some (.aload_n 0, 1) := by decide +kernel
theorem o76_36 : zop 76 36 = some (.getfield 702, 3) := by decide +kernel
theorem o76_39 : zop 76 39 = some (.iconst 0, 1) := by decide +kernel
theorem o76_40 : zop 76 40 = some (.bipush 40, 2) := by decide +kernel
theorem o76_42 : zop 76 42 = some (.invokestatic 1003, 3) := by decide +kernel
theorem o76_45 : zop 76 45 = some (.aload_n 1, 1) := by decide +kernel
theorem o76_46 : zop 76 46 = some (.getfield 703, 3) := by decide +kernel
theorem o76_49 : zop 76 49 = some (.iconst 0, 1) := by decide +kernel
theorem o76_50 : zop 76 50 = some (.aload_n 0, 1) := by decide +kernel
theorem o76_51 : zop 76 51 = some (.getfield 703, 3) := by decide +kernel
theorem o76_54 : zop 76 54 = some (.iconst 0, 1) := by decide +kernel
theorem o76_55 : zop 76 55 = some (.bipush 40, 2) := by decide +kernel
theorem o76_57 : zop 76 57 = some (.invokestatic 1003, 3) := by decide +kernel
theorem o76_60 : zop 76 60 = some (.aload_n 1, 1) := by decide +kernel
theorem o76_61 : zop 76 61 = some (.getfield 704, 3) := by decide +kernel
theorem o76_64 : zop 76 64 = some (.iconst 0, 1) := by decide +kernel
theorem o76_65 : zop 76 65 = some (.aload_n 0, 1) := by decide +kernel
theorem o76_66 : zop 76 66 = some (.getfield 704, 3) := by decide +kernel
theorem o76_69 : zop 76 69 = some (.iconst 0, 1) := by decide +kernel
theorem o76_70 : zop 76 70 = some (.iconst 5, 1) := by decide +kernel
theorem o76_71 : zop 76 71 = some (.invokestatic 1003, 3) := by decide +kernel
theorem o76_74 : zop 76 74 = some (.aload_n 1, 1) := by decide +kernel
theorem o76_75 : zop 76 75 = some (.getfield 705, 3) := by decide +kernel
theorem o76_78 : zop 76 78 = some (.iconst 0, 1) := by decide +kernel
theorem o76_79 : zop 76 79 = some (.aload_n 0, 1) := by decide +kernel
theorem o76_80 : zop 76 80 = some (.getfield 705, 3) := by decide +kernel
theorem o76_83 : zop 76 83 = some (.iconst 0, 1) := by decide +kernel
theorem o76_84 : zop 76 84 = some (.iconst 5, 1) := by decide +kernel
theorem o76_85 : zop 76 85 = some (.invokestatic 1003, 3) := by decide +kernel
theorem o76_88 : zop 76 88 = some (.aload_n 1, 1) := by decide +kernel
theorem o76_89 : zop 76 89 = some (.getfield 706, 3) := by decide +kernel
theorem o76_92 : zop 76 92 = some (.iconst 0, 1) := by decide +kernel
theorem o76_93 : zop 76 93 = some (.aload_n 0, 1) := by decide +kernel
theorem o76_94 : zop 76 94 = some (.getfield 706, 3) := by decide +kernel
theorem o76_97 : zop 76 97 = some (.iconst 0, 1) := by decide +kernel
theorem o76_98 : zop 76 98 = some (.iconst 5, 1) := by decide +kernel
theorem o76_99 : zop 76 99 = some (.invokestatic 1003, 3) := by decide +kernel
theorem o76_102 : zop 76 102 = some (.aload_n 0, 1) := by decide +kernel
theorem o76_103 : zop 76 103 = some (.getfield 707, 3) := by decide +kernel
theorem o76_106 : zop 76 106 = some (.aload_n 1, 1) := by decide +kernel
theorem o76_107 : zop 76 107 = some (.getfield 707, 3) := by decide +kernel
theorem o76_110 : zop 76 110 = some (.invokevirtual 42, 3) := by decide +kernel
theorem o76_113 : zop 76 113 = some (.aload_n 0, 1) := by decide +kernel
theorem o76_114 : zop 76 114 = some (.aload_n 1, 1) := by decide +kernel
theorem o76_115 : zop 76 115 = some (.getfield 708, 3) := by decide +kernel
theorem o76_118 : zop 76 118 = some (.putfield 708, 3) := by decide +kernel
theorem o76_121 : zop 76 121 = some (.aload_n 0, 1) := by decide +kernel
theorem o76_122 : zop 76 122 = some (.aload_n 1, 1) := by decide +kernel
theorem o76_123 : zop 76 123 = some (.getfield 709, 3) := by decide +kernel
theorem o76_126 : zop 76 126 = some (.putfield 709, 3) := by decide +kernel
theorem o76_129 : zop 76 129 = some (.aload_n 0, 1) := by decide +kernel
theorem o76_130 : zop 76 130 = some (.aload_n 1, 1) := by decide +kernel
theorem o76_131 : zop 76 131 = some (.getfield 710, 3) := by decide +kernel
theorem o76_134 : zop 76 134 = some (.putfield 710, 3) := by decide +kernel
theorem o76_137 : zop 76 137 = some (.return_, 1) := by decide +kernel
theorem o77_0 : zop 77 0 = some (.aload_n 0, 1) := by decide +kernel
theorem o77_1 : zop 77 1 = some (.invokespecial 1000, 3) := by decide +kernel
theorem o77_4 : zop 77 4 = some (.aload_n 0, 1) := by decide +kernel
theorem o77_5 : zop 77 5 = some (.new 3, 3) := by decide +kernel
theorem o77_8 : zop 77 8 = some (.dup, 1) := by decide +kernel
theorem o77_9 : zop 77 9 = some (.invokespecial 2031, 3) := by decide +kernel
theorem o77_12 : zop 77 12 = some (.putfield 800, 3) := by decide +kernel
theorem o77_15 : zop 77 15 = some (.aload_n 0, 1) := by decide +kernel
theorem o77_16 : zop 77 16 = some (.new 7, 3) := by decide +kernel
theorem o77_19 : zop 77 19 = some (.dup, 1) := by decide +kernel
theorem o77_20 : zop 77 20 = some (.invokespecial 2070, 3) := by decide +kernel
theorem o77_23 : zop 77 23 = some (.putfield 801, 3) := by decide +kernel
theorem o77_26 : zop 77 26 = some (.aload_n 0, 1) := by decide +kernel
theorem o77_27 : zop 77 27 = some (.iconst 0, 1) := by decide +kernel
theorem o77_28 : zop 77 28 = some (.putfield 802, 3) := by decide +kernel
theorem o77_31 : zop 77 31 = some (.aload_n 0, 1) := by decide +kernel
theorem o77_32 : zop 77 32 = some (.iconst (-1), 1) := by decide +kernel
theorem o77_33 : zop 77 33 = some (.putfield 803, 3) := by decide +kernel
theorem o77_36 : zop 77 36 = some (.aload_n 0, 1) := by decide +kernel
theorem o77_37 : zop 77 37 = some (.iconst 0, 1) := by decide +kernel
theorem o77_38 : zop 77 38 = some (.putfield 804, 3) := by decide +kernel
theorem o77_41 : zop 77 41 = some (.return_, 1) := by decide +kernel
theorem o78_0 : zop 78 0 = some (.aload_n 0, 1) := by decide +kernel
theorem o78_1 : zop 78 1 = some (.iconst 0, 1) := by decide +kernel
theorem o78_2 : zop 78 2 = some (.putfield 802, 3) := by decide +kernel
theorem o78_5 : zop 78 5 = some (.aload_n 0, 1) := by decide +kernel
theorem o78_6 : zop 78 6 = some (.iconst (-1), 1) := by decide +kernel
theorem o78_7 : zop 78 7 = some (.putfield 803, 3) := by decide +kernel
theorem o78_10 : zop 78 10 = some (.aload_n 0, 1) := by decide +kernel
theorem o78_11 : zop 78 11 = some (.getfield 801, 3) := by decide +kernel
theorem o78_14 : zop 78 14 = some (.invokevirtual 72, 3) := by decide +kernel
theorem o78_17 : zop 78 17 = some (.aload_n 0, 1) := by decide +kernel
theorem o78_18 : zop 78 18 = some (.getfield 800, 3) := by decide +kernel
theorem o78_21 : zop 78 21 = some (.iload_n 1, 1) := by decide +kernel
theorem o78_22 : zop 78 22 = some (.invokevirtual 33, 3) := by decide +kernel
theorem o78_25 : zop 78 25 = some (.iconst 0, 1) := by decide +kernel
theorem o78_26 : zop 78 26 = some (.istore_n 2, 1) := by decide +kernel
theorem o78_27 : zop 78 27 = some (.iload_n 2, 1) := by decide +kernel
theorem o78_28 : zop 78 28 = some (.sipush 600, 3) := by decide +kernel
theorem o78_31 : zop 78 31 = some (.if_icmp .ge 28, 3) := by decide +kernel
theorem o78_34 : zop 78 34 = some (.aload_n 0, 1) := by decide +kernel
theorem o78_35 : zop 78 35 = some (.getfield 800, 3) := by decide +kernel
theorem o78_38 : zop 78 38 = some (.getfield 302, 3) := by decide +kernel
theorem o78_41 : zop 78 41 = some (.ifCond .eq 18, 3) := by decide +kernel
theorem o78_44 : zop 78 44 = some (.aload_n 0, 1) := by decide +kernel
theorem o78_45 : zop 78 45 = some (.invokevirtual 79, 3) := by decide +kernel
theorem o78_48 : zop 78 48 = some (.ifCond .ne 5, 3) := by decide +kernel
theorem o78_51 : zop 78 51 = some (.iconst 0, 1) := by decide +kernel
theorem o78_52 : zop 78 52 = some (.ireturn, 1) := by decide +kernel
theorem o78_53 : zop 78 53 = some (.iinc 2 1, 3) := by decide +kernel
theorem o78_56 : zop 78 56 = some (.goto (-29), 3) := by decide +kernel
theorem o78_59 : zop 78 59 = some (.iconst 1, 1) := by decide +kernel
theorem o78_60 : zop 78 60 = some (.ireturn, 1) := by decide +kernel
theorem o79_0 : zop 79 0 = some (.aload_n 0, 1) := by decide +kernel
theorem o79_1 : zop 79 1 = some (.getfield 800, 3) := by decide +kernel
theorem o79_4 : zop 79 4 = some (.ldc 1, 2) := by decide +kernel
theorem o79_6 : zop 79 6 = some (.invokevirtual 38, 3) := by decide +kernel
theorem o79_9 : zop 79 9 = some (.ifCond .eq 11, 3) := by decide +kernel
theorem o79_12 : zop 79 12 = some (.aload_n 0, 1) := by decide +kernel
theorem o79_13 : zop 79 13 = some (.invokevirtual 80, 3) := by decide +kernel
theorem o79_16 : zop 79 16 = some (.istore_n 1, 1) := by decide +kernel
theorem o79_17 : zop 79 17 = some (.goto 52, 3) := by decide +kernel
theorem o79_20 : zop 79 20 = some (.aload_n 0, 1) := by decide +kernel
theorem o79_21 : zop 79 21 = some (.getfield 800, 3) := by decide +kernel
theorem o79_24 : zop 79 24 = some (.ldc 3, 2) := by decide +kernel
theorem o79_26 : zop 79 26 = some (.invokevirtual 38, 3) := by decide +kernel
theorem o79_29 : zop 79 29 = some (.ifCond .eq 11, 3) := by decide +kernel
theorem o79_32 : zop 79 32 = some (.aload_n 0, 1) := by decide +kernel
theorem o79_33 : zop 79 33 = some (.invokevirtual 83, 3) := by decide +kernel
theorem o79_36 : zop 79 36 = some (.istore_n 1, 1) := by decide +kernel
theorem o79_37 : zop 79 37 = some (.goto 32, 3) := by decide +kernel
theorem o79_40 : zop 79 40 = some (.aload_n 0, 1) := by decide +kernel
theorem o79_41 : zop 79 41 = some (.getfield 800, 3) := by decide +kernel
theorem o79_44 : zop 79 44 = some (.ldc 4, 2) := by decide +kernel
theorem o79_46 : zop 79 46 = some (.invokevirtual 38, 3) := by decide +kernel
theorem o79_49 : zop 79 49 = some (.ifCond .eq 11, 3) := by decide +kernel
theorem o79_52 : zop 79 52 = some (.aload_n 0, 1) := by decide +kernel
theorem o79_53 : zop 79 53 = some (.invokevirtual 85, 3) := by decide +kernel
theorem o79_56 : zop 79 56 = some (.istore_n 1, 1) := by decide +kernel
theorem o79_57 : zop 79 57 = some (.goto 12, 3) := by decide +kernel
theorem o79_60 : zop 79 60 = some (.aload_n 0, 1) := by decide +kernel
theorem o79_61 : zop 79 61 = some (.aload_n 0, 1) := by decide +kernel
theorem o79_62 : zop 79 62 = some (.invokevirtual 95, 3) := by decide +kernel
theorem o79_65 : zop 79 65 = some (.invokevirtual 96, 3) := by decide +kernel
theorem o79_68 : zop 79 68 = some (.istore_n 1, 1) := by decide +kernel
theorem o79_69 : zop 79 69 = some (.iload_n 1, 1) := by decide +kernel
theorem o79_70 : zop 79 70 = some (.ifCond .eq 16, 3) := by decide +kernel
theorem o79_73 : zop 79 73 = some (.aload_n 0, 1) := by decide +kernel
theorem o79_74 : zop 79 74 = some (.bipush 59, 2) := by decide +kernel
theorem o79_76 : zop 79 76 = some (.invokevirtual 93, 3) := by decide +kernel
theorem o79_79 : zop 79 79 = some (.ifCond .eq 7, 3) := by decide +kernel
theorem o79_82 : zop 79 82 = some (.iconst 1, 1) := by decide +kernel
theorem o79_83 : zop 79 83 = some (.goto 4, 3) := by decide +kernel
theorem o79_86 : zop 79 86 = some (.iconst 0, 1) := by decide +kernel
theorem o79_87 : zop 79 87 = some (.ireturn, 1) := by decide +kernel
theorem o80_0 : zop 80 0 = some (.aload_n 0, 1) := by decide +kernel
theorem o80_1 : zop 80 1 = some (.getfield 801, 3) := by decide +kernel
theorem o80_4 : zop 80 4 = some (.getfield 708, 3) := by decide +kernel
theorem o80_7 : zop 80 7 = some (.bipush 6, 2) := by decide +kernel
theorem o80_9 : zop 80 9 = some (.if_icmp .lt 9, 3) := by decide +kernel
theorem o80_12 : zop 80 12 = some (.aload_n 0, 1) := by decide +kernel
theorem o80_13 : zop 80 13 = some (.iconst 2, 1) := by decide +kernel
theorem o80_14 : zop 80 14 = some (.invokevirtual 81, 3) := by decide +kernel
theorem o80_17 : zop 80 17 = some (.ireturn, 1) := by decide +kernel
theorem o80_18 : zop 80 18 = some (.aload_n 0, 1) := by decide +kernel
theorem o80_19 : zop 80 19 = some (.getfield 800, 3) := by decide +kernel
theorem o80_22 : zop 80 22 = some (.invokevirtual 34, 3) := by decide +kernel
theorem o80_25 : zop 80 25 = some (.aload_n 0, 1) := by decide +kernel
theorem o80_26 : zop 80 26 = some (.iconst 0, 1) := by decide +kernel
theorem o80_27 : zop 80 27 = some (.bipush 40, 2) := by decide +kernel
theorem o80_29 : zop 80 29 = some (.invokevirtual 82, 3) := by decide +kernel
theorem o80_32 : zop 80 32 = some (.ifCond .ne 5, 3) := by decide +kernel
theorem o80_35 : zop 80 35 = some (.iconst 0, 1) := by decide +kernel
theorem o80_36 : zop 80 36 = some (.ireturn, 1) := by decide +kernel
theorem o80_37 : zop 80 37 = some (.aload_n 0, 1) := by decide +kernel
theorem o80_38 : zop 80 38 = some (.getfield 804, 3) := by decide +kernel
theorem o80_41 : zop 80 41 = some (.istore_n 1, 1) := by decide +kernel
theorem o80_42 : zop 80 42 = some (.iconst 1, 1) := by decide +kernel
theorem o80_43 : zop 80 43 = some (.istore_n 2, 1) := by decide +kernel
theorem o80_44 : zop 80 44 = some (.aload_n 0, 1) := by decide +kernel
theorem o80_45 : zop 80 45 = some (.getfield 800, 3) := by decide +kernel
theorem o80_48 : zop 80 48 = some (.ldc 2, 2) := by decide +kernel
theorem o80_50 : zop 80 50 = some (.invokevirtual 38, 3) := by decide +kernel
theorem o80_53 : zop 80 53 = some (.ifCond .eq 27, 3) := by decide +kernel
theorem o80_56 : zop 80 56 = some (.aload_n 0, 1) := by decide +kernel
theorem o80_57 : zop 80 57 = some (.getfield 800, 3) := by decide +kernel
theorem o80_60 : zop 80 60 = some (.invokevirtual 34, 3) := by decide +kernel
theorem o80_63 : zop 80 63 = some (.aload_n 0, 1) := by decide +kernel
theorem o80_64 : zop 80 64 = some (.iconst 0, 1) := by decide +kernel
theorem o80_65 : zop 80 65 = some (.bipush 99, 2) := by decide +kernel
theorem o80_67 : zop 80 67 = some (.invokevirtual 82, 3) := by decide +kernel
theorem o80_70 : zop 80 70 = some (.ifCond .ne 5, 3) := by decide +kernel
theorem o80_73 : zop 80 73 = some (.iconst 0, 1) := by decide +kernel
theorem o80_74 : zop 80 74 = some (.ireturn, 1) := by decide +kernel
theorem o80_75 : zop 80 75 = some (.aload_n 0, 1) := by decide +kernel
theorem o80_76 : zop 80 76 = some (.getfield 804, 3) := by decide +kernel
theorem o80_79 : zop 80 79 = some (.istore_n 2, 1) := by decide +kernel
theorem o80_80 : zop 80 80 = some (.aload_n 0, 1) := by decide +kernel
theorem o80_81 : zop 80 81 = some (.getfield 801, 3) := by decide +kernel
theorem o80_84 : zop 80 84 = some (.iload_n 1, 1) := by decide +kernel
theorem o80_85 : zop 80 85 = some (.iload_n 2, 1) := by decide +kernel
theorem o80_86 : zop 80 86 = some (.invokevirtual 73, 3) := by decide +kernel
theorem o80_89 : zop 80 89 = some (.iconst 1, 1) := by decide +kernel
theorem o80_90 : zop 80 90 = some (.ireturn, 1) := by decide +kernel
theorem o81_0 : zop 81 0 = some (.aload_n 0, 1) := by decide +kernel
theorem o81_1 : zop 81 1 = some (.iload_n 1, 1) := by decide +kernel
theorem o81_2 : zop 81 2 = some (.putfield 802, 3) := by decide +kernel
theorem o81_5 : zop 81 5 = some (.aload_n 0, 1) := by decide +kernel
theorem o81_6 : zop 81 6 = some (.aload_n 0, 1) := by decide +kernel
theorem o81_7 : zop 81 7 = some (.getfield 800, 3) := by decide +kernel
theorem o81_10 : zop 81 10 = some (.getfield 303, 3) := by decide +kernel
theorem o81_13 : zop 81 13 = some (.putfield 803, 3) := by decide +kernel
theorem o81_16 : zop 81 16 = some (.iconst 0, 1) := by decide +kernel
theorem o81_17 : zop 81 17 = some (.ireturn, 1) := by decide +kernel
theorem o82_0 : zop 82 0 = some (.aload_n 0, 1) := by decide +kernel
theorem o82_1 : zop 82 1 = some (.getfield 800, 3) := by decide +kernel
theorem o82_4 : zop 82 4 = some (.getfield 302, 3) := by decide +kernel
theorem o82_7 : zop 82 7 = some (.iconst 2, 1) := by decide +kernel
theorem o82_8 : zop 82 8 = some (.if_icmp .eq 9, 3) := by decide +kernel
theorem o82_11 : zop 82 11 = some (.aload_n 0, 1) := by decide +kernel
theorem o82_12 : zop 82 12 = some (.iconst 1, 1) := by decide +kernel
theorem o82_13 : zop 82 13 = some (.invokevirtual 81, 3) := by decide +kernel
theorem o82_16 : zop 82 16 = some (.ireturn, 1) := by decide +kernel
theorem o82_17 : zop 82 17 = some (.aload_n 0, 1) := by decide +kernel
theorem o82_18 : zop 82 18 = some (.getfield 800, 3) := by decide +kernel
theorem o82_21 : zop 82 21 = some (.getfield 304, 3) := by decide +kernel
theorem o82_24 : zop 82 24 = some (.iconst (-1), 1) := by decide +kernel
theorem o82_25 : zop 82 25 = some (.if_icmp .eq 25, 3) := by decide +kernel
theorem o82_28 : zop 82 28 = some (.aload_n 0, 1) := by decide +kernel
theorem o82_29 : zop 82 29 = some (.getfield 800, 3) := by decide +kernel
theorem o82_32 : zop 82 32 = some (.getfield 304, 3) := by decide +kernel
theorem o82_35 : zop 82 35 = some (.iload_n 1, 1) := by decide +kernel
theorem o82_36 : zop 82 36 = some (.if_icmp .lt 14, 3) := by decide +kernel
theorem o82_39 : zop 82 39 = some (.aload_n 0, 1) := by decide +kernel
theorem o82_40 : zop 82 40 = some (.getfield 800, 3) := by decide +kernel
theorem o82_43 : zop 82 43 = some (.getfield 304, 3) := by decide +kernel
theorem o82_46 : zop 82 46 = some (.iload_n 2, 1) := by decide +kernel
theorem o82_47 : zop 82 47 = some (.if_icmp .le 9, 3) := by decide +kernel
theorem o82_50 : zop 82 50 = some (.aload_n 0, 1) := by decide +kernel
theorem o82_51 : zop 82 51 = some (.iconst 2, 1) := by decide +kernel
theorem o82_52 : zop 82 52 = some (.invokevirtual 81, 3) := by decide +kernel
theorem o82_55 : zop 82 55 = some (.ireturn, 1) := by decide +kernel
theorem o82_56 : zop 82 56 = some (.aload_n 0, 1) := by decide +kernel
theorem o82_57 : zop 82 57 = some (.aload_n 0, 1) := by decide +kernel
theorem o82_58 : zop 82 58 = some (.getfield 800, 3) := by decide +kernel
theorem o82_61 : zop 82 61 = some (.getfield 304, 3) := by decide +kernel
theorem o82_64 : zop 82 64 = some (.putfield 804, 3) := by decide +kernel
theorem o82_67 : zop 82 67 = some (.aload_n 0, 1) := by decide +kernel
theorem o82_68 : zop 82 68 = some (.getfield 800, 3) := by decide +kernel
theorem o82_71 : zop 82 71 = some (.invokevirtual 34, 3) := by decide +kernel
theorem o82_74 : zop 82 74 = some (.iconst 1, 1) := by decide +kernel
theorem o82_75 : zop 82 75 = some (.ireturn, 1) := by decide +kernel
theorem o83_0 : zop 83 0 = some (.aload_n 0, 1) := by decide +kernel
theorem o83_1 : zop 83 1 = some (.getfield 800, 3) := by decide +kernel
theorem o83_4 : zop 83 4 = some (.invokevirtual 34, 3) := by decide +kernel
theorem o83_7 : zop 83 7 = some (.aload_n 0, 1) := by decide +kernel
theorem o83_8 : zop 83 8 = some (.invokevirtual 84, 3) := by decide +kernel
theorem o83_11 : zop 83 11 = some (.ifCond .ne 5, 3) := by decide +kernel
theorem o83_14 : zop 83 14 = some (.iconst 0, 1) := by decide +kernel
theorem o83_15 : zop 83 15 = some (.ireturn, 1) := by decide +kernel
theorem o83_16 : zop 83 16 = some (.aload_n 0, 1) := by decide +kernel
theorem o83_17 : zop 83 17 = some (.getfield 804, 3) := by decide +kernel
theorem o83_20 : zop 83 20 = some (.istore_n 1, 1) := by decide +kernel
theorem o83_21 : zop 83 21 = some (.aload_n 0, 1) := by decide +kernel
theorem o83_22 : zop 83 22 = some (.iconst 1, 1) := by decide +kernel
theorem o83_23 : zop 83 23 = some (.bipush 20, 2) := by decide +kernel
theorem o83_25 : zop 83 25 = some (.bipush 40, 2) := by decide +kernel
theorem o83_27 : zop 83 27 = some (.aload_n 0, 1) := by decide +kernel
theorem o83_28 : zop 83 28 = some (.getfield 801, 3) := by decide +kernel
theorem o83_31 : zop 83 31 = some (.getfield 709, 3) := by decide +kernel
theorem o83_34 : zop 83 34 = some (.isub, 1) := by decide +kernel
theorem o83_35 : zop 83 35 = some (.invokestatic 1001, 3) := by decide +kernel
theorem o83_38 : zop 83 38 = some (.invokevirtual 82, 3) := by decide +kernel
theorem o83_41 : zop 83 41 = some (.ifCond .ne 5, 3) := by decide +kernel
theorem o83_44 : zop 83 44 = some (.iconst 0, 1) := by decide +kernel
theorem o83_45 : zop 83 45 = some (.ireturn, 1) := by decide +kernel
theorem o83_46 : zop 83 46 = some (.aload_n 0, 1) := by decide +kernel
theorem o83_47 : zop 83 47 = some (.getfield 804, 3) := by decide +kernel
theorem o83_50 : zop 83 50 = some (.istore_n 2, 1) := by decide +kernel
theorem o83_51 : zop 83 51 = some (.aload_n 0, 1) := by decide +kernel
theorem o83_52 : zop 83 52 = some (.iconst 0, 1) := by decide +kernel
theorem o83_53 : zop 83 53 = some (.bipush 9, 2) := by decide +kernel
theorem o83_55 : zop 83 55 = some (.invokevirtual 82, 3) := by decide +kernel
theorem o83_58 : zop 83 58 = some (.ifCond .ne 5, 3) := by decide +kernel
theorem o83_61 : zop 83 61 = some (.iconst 0, 1) := by decide +kernel
theorem o83_62 : zop 83 62 = some (.ireturn, 1) := by decide +kernel
theorem o83_63 : zop 83 63 = some (.aload_n 0, 1) := by decide +kernel
theorem o83_64 : zop 83 64 = some (.getfield 801, 3) := by decide +kernel
theorem o83_67 : zop 83 67 = some (.iload_n 1, 1) := by decide +kernel
theorem o83_68 : zop 83 68 = some (.iload_n 2, 1) := by decide +kernel
theorem o83_69 : zop 83 69 = some (.aload_n 0, 1) := by decide +kernel
theorem o83_70 : zop 83 70 = some (.getfield 804, 3) := by decide +kernel
theorem o83_73 : zop 83 73 = some (.invokevirtual 74, 3) := by decide +kernel
theorem o83_76 : zop 83 76 = some (.iconst 1, 1) := by decide +kernel
theorem o83_77 : zop 83 77 = some (.ireturn, 1) := by decide +kernel
theorem o84_0 : zop 84 0 = some (.aload_n 0, 1) := by decide +kernel
theorem o84_1 : zop 84 1 = some (.getfield 800, 3) := by decide +kernel
theorem o84_4 : zop 84 4 = some (.getfield 302, 3) := by decide +kernel
theorem o84_7 : zop 84 7 = some (.iconst 2, 1) := by decide +kernel
theorem o84_8 : zop 84 8 = some (.if_icmp .ne 26, 3) := by decide +kernel
theorem o84_11 : zop 84 11 = some (.aload_n 0, 1) := by decide +kernel
theorem o84_12 : zop 84 12 = some (.getfield 800, 3) := by decide +kernel
theorem o84_15 : zop 84 15 = some (.getfield 304, 3) := by decide +kernel
theorem o84_18 : zop 84 18 = some (.aload_n 0, 1) := by decide +kernel
theorem o84_19 : zop 84 19 = some (.getfield 801, 3) := by decide +kernel
theorem o84_22 : zop 84 22 = some (.getfield 708, 3) := by decide +kernel
theorem o84_25 : zop 84 25 = some (.if_icmp .lt 9, 3) := by decide +kernel
theorem o84_28 : zop 84 28 = some (.aload_n 0, 1) := by decide +kernel
theorem o84_29 : zop 84 29 = some (.iconst 3, 1) := by decide +kernel
theorem o84_30 : zop 84 30 = some (.invokevirtual 81, 3) := by decide +kernel
theorem o84_33 : zop 84 33 = some (.ireturn, 1) := by decide +kernel
theorem o84_34 : zop 84 34 = some (.aload_n 0, 1) := by decide +kernel
theorem o84_35 : zop 84 35 = some (.iconst 0, 1) := by decide +kernel
theorem o84_36 : zop 84 36 = some (.iconst 5, 1) := by decide +kernel
theorem o84_37 : zop 84 37 = some (.invokevirtual 82, 3) := by decide +kernel
theorem o84_40 : zop 84 40 = some (.ireturn, 1) := by decide +kernel
theorem o85_0 : zop 85 0 = some (.aload_n 0, 1) := by decide +kernel
theorem o85_1 : zop 85 1 = some (.getfield 801, 3) := by decide +kernel
theorem o85_4 : zop 85 4 = some (.getfield 707, 3) := by decide +kernel
theorem o85_7 : zop 85 7 = some (.getfield 403, 3) := by decide +kernel
theorem o85_10 : zop 85 10 = some (.ifCond .le 9, 3) := by decide +kernel
theorem o85_13 : zop 85 13 = some (.aload_n 0, 1) := by decide +kernel
theorem o85_14 : zop 85 14 = some (.iconst 4, 1) := by decide +kernel
theorem o85_15 : zop 85 15 = some (.invokevirtual 81, 3) := by decide +kernel
theorem o85_18 : zop 85 18 = some (.ireturn, 1) := by decide +kernel
theorem o85_19 : zop 85 19 = some (.aload_n 0, 1) := by decide +kernel
theorem o85_20 : zop 85 20 = some (.getfield 800, 3) := by decide +kernel
theorem o85_23 : zop 85 23 = some (.invokevirtual 34, 3) := by decide +kernel
theorem o85_26 : zop 85 26 = some (.aload_n 0, 1) := by decide +kernel
theorem o85_27 : zop 85 27 = some (.iconst 0, 1) := by decide +kernel
theorem o85_28 : zop 85 28 = some (.invokevirtual 86, 3) := by decide +kernel
theorem o85_31 : zop 85 31 = some (.ireturn, 1) := by decide +kernel
theorem o86_0 : zop 86 0 = some (.iload_n 1, 1) := by decide +kernel
theorem o86_1 : zop 86 1 = some (.bipush 6, 2) := by decide +kernel
theorem o86_3 : zop 86 3 = some (.if_icmp .lt 57, 3) := by decide +kernel
theorem o86_6 : zop 86 6 = some (.aload_n 0, 1) := by decide +kernel
theorem o86_7 : zop 86 7 = some (.getfield 800, 3) := by decide +kernel
theorem o86_10 : zop 86 10 = some (.getfield 302, 3) := by decide +kernel
theorem o86_13 : zop 86 13 = some (.iconst 2, 1) := by decide +kernel
theorem o86_14 : zop 86 14 = some (.if_icmp .eq 26, 3) := by decide +kernel
theorem o86_17 : zop 86 17 = some (.aload_n 0, 1) := by decide +kernel
theorem o86_18 : zop 86 18 = some (.getfield 800, 3) := by decide +kernel
theorem o86_21 : zop 86 21 = some (.getfield 302, 3) := by decide +kernel
theorem o86_24 : zop 86 24 = some (.iconst 1, 1) := by decide +kernel
theorem o86_25 : zop 86 25 = some (.if_icmp .eq 15, 3) := by decide +kernel
theorem o86_28 : zop 86 28 = some (.aload_n 0, 1) := by decide +kernel
theorem o86_29 : zop 86 29 = some (.getfield 800, 3) := by decide +kernel
theorem o86_32 : zop 86 32 = some (.bipush 40, 2) := by decide +kernel
theorem o86_34 : zop 86 34 = some (.invokevirtual 39, 3) := by decide +kernel
theorem o86_37 : zop 86 37 = some (.ifCond .eq 7, 3) := by decide +kernel
theorem o86_40 : zop 86 40 = some (.iconst 1, 1) := by decide +kernel
theorem o86_41 : zop 86 41 = some (.goto 4, 3) := by decide +kernel
theorem o86_44 : zop 86 44 = some (.iconst 0, 1) := by decide +kernel
theorem o86_45 : zop 86 45 = some (.istore_n 2, 1) := by decide +kernel
theorem o86_46 : zop 86 46 = some (.aload_n 0, 1) := by decide +kernel
theorem o86_47 : zop 86 47 = some (.iload_n 2, 1) := by decide +kernel
theorem o86_48 : zop 86 48 = some (.ifCond .eq 7, 3) := by decide +kernel
theorem o86_51 : zop 86 51 = some (.iconst 2, 1) := by decide +kernel
theorem o86_52 : zop 86 52 = some (.goto 4, 3) := by decide +kernel
theorem o86_55 : zop 86 55 = some (.iconst 1, 1) := by decide +kernel
theorem o86_56 : zop 86 56 = some (.invokevirtual 81, 3) := by decide +kernel
theorem o86_59 : zop 86 59 = some (.ireturn, 1) := by decide +kernel
theorem o86_60 : zop 86 60 = some (.aload_n 0, 1) := by decide +kernel
theorem o86_61 : zop 86 61 = some (.iload_n 1, 1) := by decide +kernel
theorem o86_62 : zop 86 62 = some (.invokevirtual 87, 3) := by decide +kernel
theorem o86_65 : zop 86 65 = some (.istore_n 2, 1) := by decide +kernel
theorem o86_66 : zop 86 66 = some (.iconst 0, 1) := by decide +kernel
theorem o86_67 : zop 86 67 = some (.istore_n 3, 1) := by decide +kernel
theorem o86_68 : zop 86 68 = some (.iload_n 3, 1) := by decide +kernel
theorem o86_69 : zop 86 69 = some (.sipush 600, 3) := by decide +kernel
theorem o86_72 : zop 86 72 = some (.if_icmp .ge 50, 3) := by decide +kernel
theorem o86_75 : zop 86 75 = some (.iload_n 2, 1) := by decide +kernel
theorem o86_76 : zop 86 76 = some (.ifCond .eq 46, 3) := by decide +kernel
theorem o86_79 : zop 86 79 = some (.aload_n 0, 1) := by decide +kernel
theorem o86_80 : zop 86 80 = some (.getfield 800, 3) := by decide +kernel
theorem o86_83 : zop 86 83 = some (.ldc 13, 2) := by decide +kernel
theorem o86_85 : zop 86 85 = some (.invokevirtual 38, 3) := by decide +kernel
theorem o86_88 : zop 86 88 = some (.ifCond .eq 34, 3) := by decide +kernel
theorem o86_91 : zop 86 91 = some (.aload_n 0, 1) := by decide +kernel
theorem o86_92 : zop 86 92 = some (.getfield 800, 3) := by decide +kernel
theorem o86_95 : zop 86 95 = some (.invokevirtual 34, 3) := by decide +kernel
theorem o86_98 : zop 86 98 = some (.aload_n 0, 1) := by decide +kernel
theorem o86_99 : zop 86 99 = some (.iload_n 1, 1) := by decide +kernel
theorem o86_100 : zop 86 100 = some (.invokevirtual 87, 3) := by decide +kernel
theorem o86_103 : zop 86 103 = some (.istore_n 2, 1) := by decide +kernel
theorem o86_104 : zop 86 104 = some (.aload_n 0, 1) := by decide +kernel
theorem o86_105 : zop 86 105 = some (.getfield 801, 3) := by decide +kernel
theorem o86_108 : zop 86 108 = some (.getfield 707, 3) := by decide +kernel
theorem o86_111 : zop 86 111 = some (.bipush (-15), 2) := by decide +kernel
theorem o86_113 : zop 86 113 = some (.invokevirtual 41, 3) := by decide +kernel
theorem o86_116 : zop 86 116 = some (.iinc 3 1, 3) := by decide +kernel
theorem o86_119 : zop 86 119 = some (.goto (-51), 3) := by decide +kernel
theorem o86_122 : zop 86 122 = some (.iload_n 2, 1) := by decide +kernel
theorem o86_123 : zop 86 123 = some (.ireturn, 1) := by decide +kernel
theorem o87_0 : zop 87 0 = some (.aload_n 0, 1) := by decide +kernel
theorem o87_1 : zop 87 1 = some (.iload_n 1, 1) := by decide +kernel
theorem o87_2 : zop 87 2 = some (.invokevirtual 88, 3) := by decide +kernel
theorem o87_5 : zop 87 5 = some (.istore_n 2, 1) := by decide +kernel
theorem o87_6 : zop 87 6 = some (.iconst 0, 1) := by decide +kernel
theorem o87_7 : zop 87 7 = some (.istore_n 3, 1) := by decide +kernel
theorem o87_8 : zop 87 8 = some (.iload_n 3, 1) := by decide +kernel
theorem o87_9 : zop 87 9 = some (.sipush 600, 3) := by decide +kernel
theorem o87_12 : zop 87 12 = some (.if_icmp .ge 50, 3) := by decide +kernel
theorem o87_15 : zop 87 15 = some (.iload_n 2, 1) := by decide +kernel
theorem o87_16 : zop 87 16 = some (.ifCond .eq 46, 3) := by decide +kernel
theorem o87_19 : zop 87 19 = some (.aload_n 0, 1) := by decide +kernel
theorem o87_20 : zop 87 20 = some (.getfield 800, 3) := by decide +kernel
theorem o87_23 : zop 87 23 = some (.ldc 12, 2) := by decide +kernel
theorem o87_25 : zop 87 25 = some (.invokevirtual 38, 3) := by decide +kernel
theorem o87_28 : zop 87 28 = some (.ifCond .eq 34, 3) := by decide +kernel
theorem o87_31 : zop 87 31 = some (.aload_n 0, 1) := by decide +kernel
theorem o87_32 : zop 87 32 = some (.getfield 800, 3) := by decide +kernel
theorem o87_35 : zop 87 35 = some (.invokevirtual 34, 3) := by decide +kernel
theorem o87_38 : zop 87 38 = some (.aload_n 0, 1) := by decide +kernel
theorem o87_39 : zop 87 39 = some (.iload_n 1, 1) := by decide +kernel
theorem o87_40 : zop 87 40 = some (.invokevirtual 88, 3) := by decide +kernel
theorem o87_43 : zop 87 43 = some (.istore_n 2, 1) := by decide +kernel
theorem o87_44 : zop 87 44 = some (.aload_n 0, 1) := by decide +kernel
theorem o87_45 : zop 87 45 = some (.getfield 801, 3) := by decide +kernel
theorem o87_48 : zop 87 48 = some (.getfield 707, 3) := by decide +kernel
theorem o87_51 : zop 87 51 = some (.bipush (-14), 2) := by decide +kernel
theorem o87_53 : zop 87 53 = some (.invokevirtual 41, 3) := by decide +kernel
theorem o87_56 : zop 87 56 = some (.iinc 3 1, 3) := by decide +kernel
theorem o87_59 : zop 87 59 = some (.goto (-51), 3) := by decide +kernel
theorem o87_62 : zop 87 62 = some (.iload_n 2, 1) := by decide +kernel
theorem o87_63 : zop 87 63 = some (.ireturn, 1) := by decide +kernel
theorem o88_0 : zop 88 0 = some (.iconst 0, 1) := by decide +kernel
theorem o88_1 : zop 88 1 = some (.istore_n 2, 1) := by decide +kernel
theorem o88_2 : zop 88 2 = some (.iload_n 2, 1) := by decide +kernel
theorem o88_3 : zop 88 3 = some (.bipush 6, 2) := by decide +kernel
theorem o88_5 : zop 88 5 = some (.if_icmp .ge 28, 3) := by decide +kernel
theorem o88_8 : zop 88 8 = some (.aload_n 0, 1) := by decide +kernel
theorem o88_9 : zop 88 9 = some (.getfield 800, 3) := by decide +kernel
theorem o88_12 : zop 88 12 = some (.ldc 5, 2) := by decide +kernel
theorem o88_14 : zop 88 14 = some (.invokevirtual 38, 3) := by decide +kernel
theorem o88_17 : zop 88 17 = some (.ifCond .eq 16, 3) := by decide +kernel
theorem o88_20 : zop 88 20 = some (.aload_n 0, 1) := by decide +kernel
theorem o88_21 : zop 88 21 = some (.getfield 800, 3) := by decide +kernel
theorem o88_24 : zop 88 24 = some (.invokevirtual 34, 3) := by decide +kernel
theorem o88_27 : zop 88 27 = some (.iinc 2 1, 3) := by decide +kernel
theorem o88_30 : zop 88 30 = some (.goto (-28), 3) := by decide +kernel
theorem o88_33 : zop 88 33 = some (.aload_n 0, 1) := by decide +kernel
theorem o88_34 : zop 88 34 = some (.getfield 800, 3) := by decide +kernel
theorem o88_37 : zop 88 37 = some (.ldc 5, 2) := by decide +kernel
theorem o88_39 : zop 88 39 = some (.invokevirtual 38, 3) := by decide +kernel
theorem o88_42 : zop 88 42 = some (.ifCond .eq 15, 3) := by decide +kernel
theorem o88_45 : zop 88 45 = some (.iload_n 2, 1) := by decide +kernel
theorem o88_46 : zop 88 46 = some (.bipush 6, 2) := by decide +kernel
theorem o88_48 : zop 88 48 = some (.if_icmp .lt 9, 3) := by decide +kernel
theorem o88_51 : zop 88 51 = some (.aload_n 0, 1) := by decide +kernel
theorem o88_52 : zop 88 52 = some (.iconst 2, 1) := by decide +kernel
theorem o88_53 : zop 88 53 = some (.invokevirtual 81, 3) := by decide +kernel
theorem o88_56 : zop 88 56 = some (.ireturn, 1) := by decide +kernel
theorem o88_57 : zop 88 57 = some (.aload_n 0, 1) := by decide +kernel
theorem o88_58 : zop 88 58 = some (.iload_n 1, 1) := by decide +kernel
theorem o88_59 : zop 88 59 = some (.invokevirtual 89, 3) := by decide +kernel
theorem o88_62 : zop 88 62 = some (.ifCond .ne 5, 3) := by decide +kernel
theorem o88_65 : zop 88 65 = some (.iconst 0, 1) := by decide +kernel
theorem o88_66 : zop 88 66 = some (.ireturn, 1) := by decide +kernel
theorem o88_67 : zop 88 67 = some (.iconst 0, 1) := by decide +kernel
theorem o88_68 : zop 88 68 = some (.istore_n 3, 1) := by decide +kernel
theorem o88_69 : zop 88 69 = some (.iload_n 3, 1) := by decide +kernel
theorem o88_70 : zop 88 70 = some (.iload_n 2, 1) := by decide +kernel
theorem o88_71 : zop 88 71 = some (.if_icmp .ge 21, 3) := by decide +kernel
theorem o88_74 : zop 88 74 = some (.aload_n 0, 1) := by decide +kernel
theorem o88_75 : zop 88 75 = some (.getfield 801, 3) := by decide +kernel
theorem o88_78 : zop 88 78 = some (.getfield 707, 3) := by decide +kernel
theorem o88_81 : zop 88 81 = some (.bipush (-13), 2) := by decide +kernel
theorem o88_83 : zop 88 83 = some (.invokevirtual 41, 3) := by decide +kernel
theorem o88_86 : zop 88 86 = some (.iinc 3 1, 3) := by decide +kernel
theorem o88_89 : zop 88 89 = some (.goto (-20), 3) := by decide +kernel
theorem o88_92 : zop 88 92 = some (.iconst 1, 1) := by decide +kernel
theorem o88_93 : zop 88 93 = some (.ireturn, 1) := by decide +kernel
theorem o89_0 : zop 89 0 = some (.aload_n 0, 1) := by decide +kernel
theorem o89_1 : zop 89 1 = some (.iload_n 1, 1) := by decide +kernel
theorem o89_2 : zop 89 2 = some (.invokevirtual 90, 3) := by decide +kernel
theorem o89_5 : zop 89 5 = some (.ifCond .ne 5, 3) := by decide +kernel
theorem o89_8 : zop 89 8 = some (.iconst 0, 1) := by decide +kernel
theorem o89_9 : zop 89 9 = some (.ireturn, 1) := by decide +kernel
theorem o89_10 : zop 89 10 = some (.aload_n 0, 1) := by decide +kernel
theorem o89_11 : zop 89 11 = some (.getfield 800, 3) := by decide +kernel
theorem o89_14 : zop 89 14 = some (.bipush 60, 2) := by decide +kernel
theorem o89_16 : zop 89 16 = some (.invokevirtual 39, 3) := by decide +kernel
theorem o89_19 : zop 89 19 = some (.ifCond .ne 17, 3) := by decide +kernel
theorem o89_22 : zop 89 22 = some (.aload_n 0, 1) := by decide +kernel
theorem o89_23 : zop 89 23 = some (.getfield 800, 3) := by decide +kernel
theorem o89_26 : zop 89 26 = some (.bipush 61, 2) := by decide +kernel
theorem o89_28 : zop 89 28 = some (.invokevirtual 39, 3) := by decide +kernel
theorem o89_31 : zop 89 31 = some (.ifCond .ne 5, 3) := by decide +kernel
theorem o89_34 : zop 89 34 = some (.iconst 1, 1) := by decide +kernel
theorem o89_35 : zop 89 35 = some (.ireturn, 1) := by decide +kernel
theorem o89_36 : zop 89 36 = some (.aload_n 0, 1) := by decide +kernel
theorem o89_37 : zop 89 37 = some (.getfield 800, 3) := by decide +kernel
theorem o89_40 : zop 89 40 = some (.bipush 60, 2) := by decide +kernel
theorem o89_42 : zop 89 42 = some (.invokevirtual 39, 3) := by decide +kernel
theorem o89_45 : zop 89 45 = some (.ifCond .eq 8, 3) := by decide +kernel
theorem o89_48 : zop 89 48 = some (.bipush (-11), 2) := by decide +kernel
theorem o89_50 : zop 89 50 = some (.goto 5, 3) := by decide +kernel
theorem o89_53 : zop 89 53 = some (.bipush (-12), 2) := by decide +kernel
theorem o89_55 : zop 89 55 = some (.istore_n 2, 1) := by decide +kernel
theorem o89_56 : zop 89 56 = some (.aload_n 0, 1) := by decide +kernel
theorem o89_57 : zop 89 57 = some (.getfield 800, 3) := by decide +kernel
theorem o89_60 : zop 89 60 = some (.invokevirtual 34, 3) := by decide +kernel
theorem o89_63 : zop 89 63 = some (.aload_n 0, 1) := by decide +kernel
theorem o89_64 : zop 89 64 = some (.iload_n 1, 1) := by decide +kernel
theorem o89_65 : zop 89 65 = some (.invokevirtual 90, 3) := by decide +kernel
theorem o89_68 : zop 89 68 = some (.istore_n 3, 1) := by decide +kernel
theorem o89_69 : zop 89 69 = some (.aload_n 0, 1) := by decide +kernel
theorem o89_70 : zop 89 70 = some (.getfield 801, 3) := by decide +kernel
theorem o89_73 : zop 89 73 = some (.getfield 707, 3) := by decide +kernel
theorem o89_76 : zop 89 76 = some (.iload_n 2, 1) := by decide +kernel
theorem o89_77 : zop 89 77 = some (.invokevirtual 41, 3) := by decide +kernel
theorem o89_80 : zop 89 80 = some (.iload_n 3, 1) := by decide +kernel
theorem o89_81 : zop 89 81 = some (.ireturn, 1) := by decide +kernel
theorem o90_0 : zop 90 0 = some (.aload_n 0, 1) := by decide +kernel
theorem o90_1 : zop 90 1 = some (.iload_n 1, 1) := by decide +kernel
theorem o90_2 : zop 90 2 = some (.invokevirtual 91, 3) := by decide +kernel
theorem o90_5 : zop 90 5 = some (.istore_n 2, 1) := by decide +kernel
theorem o90_6 : zop 90 6 = some (.iconst 0, 1) := by decide +kernel
theorem o90_7 : zop 90 7 = some (.istore_n 3, 1) := by decide +kernel
theorem o90_8 : zop 90 8 = some (.iload_n 3, 1) := by decide +kernel
theorem o90_9 : zop 90 9 = some (.sipush 600, 3) := by decide +kernel
theorem o90_12 : zop 90 12 = some (.if_icmp .ge 83, 3) := by decide +kernel
theorem o90_15 : zop 90 15 = some (.iload_n 2, 1) := by decide +kernel
theorem o90_16 : zop 90 16 = some (.ifCond .eq 79, 3) := by decide +kernel
theorem o90_19 : zop 90 19 = some (.aload_n 0, 1) := by decide +kernel
theorem o90_20 : zop 90 20 = some (.getfield 800, 3) := by decide +kernel
theorem o90_23 : zop 90 23 = some (.bipush 43, 2) := by decide +kernel
theorem o90_25 : zop 90 25 = some (.invokevirtual 39, 3) := by decide +kernel
theorem o90_28 : zop 90 28 = some (.ifCond .ne 15, 3) := by decide +kernel
theorem o90_31 : zop 90 31 = some (.aload_n 0, 1) := by decide +kernel
theorem o90_32 : zop 90 32 = some (.getfield 800, 3) := by decide +kernel
theorem o90_35 : zop 90 35 = some (.bipush 45, 2) := by decide +kernel
theorem o90_37 : zop 90 37 = some (.invokevirtual 39, 3) := by decide +kernel
theorem o90_40 : zop 90 40 = some (.ifCond .eq 55, 3) := by decide +kernel
theorem o90_43 : zop 90 43 = some (.aload_n 0, 1) := by decide +kernel
theorem o90_44 : zop 90 44 = some (.getfield 800, 3) := by decide +kernel
theorem o90_47 : zop 90 47 = some (.bipush 43, 2) := by decide +kernel
theorem o90_49 : zop 90 49 = some (.invokevirtual 39, 3) := by decide +kernel
theorem o90_52 : zop 90 52 = some (.ifCond .eq 8, 3) := by decide +kernel
theorem o90_55 : zop 90 55 = some (.bipush (-7), 2) := by decide +kernel
theorem o90_57 : zop 90 57 = some (.goto 5, 3) := by decide +kernel
theorem o90_60 : zop 90 60 = some (.bipush (-8), 2) := by decide +kernel
theorem o90_62 : zop 90 62 = some (.istore 4, 2) := by decide +kernel
theorem o90_64 : zop 90 64 = some (.aload_n 0, 1) := by decide +kernel
theorem o90_65 : zop 90 65 = some (.getfield 800, 3) := by decide +kernel
theorem o90_68 : zop 90 68 = some (.invokevirtual 34, 3) := by decide +kernel
theorem o90_71 : zop 90 71 = some (.aload_n 0, 1) := by decide +kernel
theorem o90_72 : zop 90 72 = some (.iload_n 1, 1) := by decide +kernel
theorem o90_73 : zop 90 73 = some (.invokevirtual 91, 3) := by decide +kernel
theorem o90_76 : zop 90 76 = some (.istore_n 2, 1) := by decide +kernel
theorem o90_77 : zop 90 77 = some (.aload_n 0, 1) := by decide +kernel
theorem o90_78 : zop 90 78 = some (.getfield 801, 3) := by decide +kernel
theorem o90_81 : zop 90 81 = some (.getfield 707, 3) := by decide +kernel
theorem o90_84 : zop 90 84 = some (.iload 4, 2) := by decide +kernel
theorem o90_86 : zop 90 86 = some (.invokevirtual 41, 3) := by decide +kernel
theorem o90_89 : zop 90 89 = some (.iinc 3 1, 3) := by decide +kernel
theorem o90_92 : zop 90 92 = some (.goto (-84), 3) := by decide +kernel
theorem o90_95 : zop 90 95 = some (.iload_n 2, 1) := by decide +kernel
theorem o90_96 : zop 90 96 = some (.ireturn, 1) := by decide +kernel
theorem o91_0 : zop 91 0 = some (.aload_n 0, 1) := by decide +kernel
theorem o91_1 : zop 91 1 = some (.iload_n 1, 1) := by decide +kernel
theorem o91_2 : zop 91 2 = some (.invokevirtual 92, 3) := by decide +kernel
theorem o91_5 : zop 91 5 = some (.istore_n 2, 1) := by decide +kernel
theorem o91_6 : zop 91 6 = some (.iconst 0, 1) := by decide +kernel
theorem o91_7 : zop 91 7 = some (.istore_n 3, 1) := by decide +kernel
theorem o91_8 : zop 91 8 = some (.iload_n 3, 1) := by decide +kernel
theorem o91_9 : zop 91 9 = some (.sipush 600, 3) := by decide +kernel
theorem o91_12 : zop 91 12 = some (.if_icmp .ge 83, 3) := by decide +kernel
theorem o91_15 : zop 91 15 = some (.iload_n 2, 1) := by decide +kernel
theorem o91_16 : zop 91 16 = some (.ifCond .eq 79, 3) := by decide +kernel
theorem o91_19 : zop 91 19 = some (.aload_n 0, 1) := by decide +kernel
theorem o91_20 : zop 91 20 = some (.getfield 800, 3) := by decide +kernel
theorem o91_23 : zop 91 23 = some (.bipush 42, 2) := by decide +kernel
theorem o91_25 : zop 91 25 = some (.invokevirtual 39, 3) := by decide +kernel
theorem o91_28 : zop 91 28 = some (.ifCond .ne 15, 3) := by decide +kernel
theorem o91_31 : zop 91 31 = some (.aload_n 0, 1) := by decide +kernel
theorem o91_32 : zop 91 32 = some (.getfield 800, 3) := by decide +kernel
theorem o91_35 : zop 91 35 = some (.bipush 47, 2) := by decide +kernel
theorem o91_37 : zop 91 37 = some (.invokevirtual 39, 3) := by decide +kernel
theorem o91_40 : zop 91 40 = some (.ifCond .eq 55, 3) := by decide +kernel
theorem o91_43 : zop 91 43 = some (.aload_n 0, 1) := by decide +kernel
theorem o91_44 : zop 91 44 = some (.getfield 800, 3) := by decide +kernel
theorem o91_47 : zop 91 47 = some (.bipush 42, 2) := by decide +kernel
theorem o91_49 : zop 91 49 = some (.invokevirtual 39, 3) := by decide +kernel
theorem o91_52 : zop 91 52 = some (.ifCond .eq 8, 3) := by decide +kernel
theorem o91_55 : zop 91 55 = some (.bipush (-9), 2) := by decide +kernel
theorem o91_57 : zop 91 57 = some (.goto 5, 3) := by decide +kernel
theorem o91_60 : zop 91 60 = some (.bipush (-10), 2) := by decide +kernel
theorem o91_62 : zop 91 62 = some (.istore 4, 2) := by decide +kernel
theorem o91_64 : zop 91 64 = some (.aload_n 0, 1) := by decide +kernel
theorem o91_65 : zop 91 65 = some (.getfield 800, 3) := by decide +kernel
theorem o91_68 : zop 91 68 = some (.invokevirtual 34, 3) := by decide +kernel
theorem o91_71 : zop 91 71 = some (.aload_n 0, 1) := by decide +kernel
theorem o91_72 : zop 91 72 = some (.iload_n 1, 1) := by decide +kernel
theorem o91_73 : zop 91 73 = some (.invokevirtual 92, 3) := by decide +kernel
theorem o91_76 : zop 91 76 = some (.istore_n 2, 1) := by decide +kernel
theorem o91_77 : zop 91 77 = some (.aload_n 0, 1) := by decide +kernel
theorem o91_78 : zop 91 78 = some (.getfield 801, 3) := by decide +kernel
theorem o91_81 : zop 91 81 = some (.getfield 707, 3) := by decide +kernel
theorem o91_84 : zop 91 84 = some (.iload 4, 2) := by decide +kernel
theorem o91_86 : zop 91 86 = some (.invokevirtual 41, 3) := by decide +kernel
theorem o91_89 : zop 91 89 = some (.iinc 3 1, 3) := by decide +kernel
theorem o91_92 : zop 91 92 = some (.goto (-84), 3) := by decide +kernel
theorem o91_95 : zop 91 95 = some (.iload_n 2, 1) := by decide +kernel
theorem o91_96 : zop 91 96 = some (.ireturn, 1) := by decide +kernel
theorem o92_0 : zop 92 0 = some (.aload_n 0, 1) := by decide +kernel
theorem o92_1 : zop 92 1 = some (.getfield 800, 3) := by decide +kernel
theorem o92_4 : zop 92 4 = some (.bipush 40, 2) := by decide +kernel
theorem o92_6 : zop 92 6 = some (.invokevirtual 39, 3) := by decide +kernel
theorem o92_9 : zop 92 9 = some (.ifCond .eq 35, 3) := by decide +kernel
theorem o92_12 : zop 92 12 = some (.aload_n 0, 1) := by decide +kernel
theorem o92_13 : zop 92 13 = some (.getfield 800, 3) := by decide +kernel
theorem o92_16 : zop 92 16 = some (.invokevirtual 34, 3) := by decide +kernel
theorem o92_19 : zop 92 19 = some (.aload_n 0, 1) := by decide +kernel
theorem o92_20 : zop 92 20 = some (.iload_n 1, 1) := by decide +kernel
theorem o92_21 : zop 92 21 = some (.iconst 1, 1) := by decide +kernel
theorem o92_22 : zop 92 22 = some (.iadd, 1) := by decide +kernel
theorem o92_23 : zop 92 23 = some (.invokevirtual 86, 3) := by decide +kernel
theorem o92_26 : zop 92 26 = some (.ifCond .eq 16, 3) := by decide +kernel
theorem o92_29 : zop 92 29 = some (.aload_n 0, 1) := by decide +kernel
theorem o92_30 : zop 92 30 = some (.bipush 41, 2) := by decide +kernel
theorem o92_32 : zop 92 32 = some (.invokevirtual 93, 3) := by decide +kernel
theorem o92_35 : zop 92 35 = some (.ifCond .eq 7, 3) := by decide +kernel
theorem o92_38 : zop 92 38 = some (.iconst 1, 1) := by decide +kernel
theorem o92_39 : zop 92 39 = some (.goto 4, 3) := by decide +kernel
theorem o92_42 : zop 92 42 = some (.iconst 0, 1) := by decide +kernel
theorem o92_43 : zop 92 43 = some (.ireturn, 1) := by decide +kernel
theorem o92_44 : zop 92 44 = some (.aload_n 0, 1) := by decide +kernel
theorem o92_45 : zop 92 45 = some (.getfield 800, 3) := by decide +kernel
theorem o92_48 : zop 92 48 = some (.getfield 302, 3) := by decide +kernel
theorem o92_51 : zop 92 51 = some (.iconst 1, 1) := by decide +kernel
theorem o92_52 : zop 92 52 = some (.if_icmp .eq 28, 3) := by decide +kernel
theorem o92_55 : zop 92 55 = some (.aload_n 0, 1) := by decide +kernel
theorem o92_56 : zop 92 56 = some (.iconst 0, 1) := by decide +kernel
theorem o92_57 : zop 92 57 = some (.sipush 9999, 3) := by decide +kernel
theorem o92_60 : zop 92 60 = some (.invokevirtual 82, 3) := by decide +kernel
theorem o92_63 : zop 92 63 = some (.istore_n 2, 1) := by decide +kernel
theorem o92_64 : zop 92 64 = some (.aload_n 0, 1) := by decide +kernel
theorem o92_65 : zop 92 65 = some (.getfield 801, 3) := by decide +kernel
theorem o92_68 : zop 92 68 = some (.getfield 707, 3) := by decide +kernel
theorem o92_71 : zop 92 71 = some (.aload_n 0, 1) := by decide +kernel
theorem o92_72 : zop 92 72 = some (.getfield 804, 3) := by decide +kernel
theorem o92_75 : zop 92 75 = some (.invokevirtual 41, 3) := by decide +kernel
theorem o92_78 : zop 92 78 = some (.iload_n 2, 1) := by decide +kernel
theorem o92_79 : zop 92 79 = some (.ireturn, 1) := by decide +kernel
theorem o92_80 : zop 92 80 = some (.aload_n 0, 1) := by decide +kernel
theorem o92_81 : zop 92 81 = some (.invokevirtual 94, 3) := by decide +kernel
theorem o92_84 : zop 92 84 = some (.istore_n 2, 1) := by decide +kernel
theorem o92_85 : zop 92 85 = some (.iload_n 2, 1) := by decide +kernel
theorem o92_86 : zop 92 86 = some (.ifCond .ne 9, 3) := by decide +kernel
theorem o92_89 : zop 92 89 = some (.aload_n 0, 1) := by decide +kernel
theorem o92_90 : zop 92 90 = some (.iconst 3, 1) := by decide +kernel
theorem o92_91 : zop 92 91 = some (.invokevirtual 81, 3) := by decide +kernel
theorem o92_94 : zop 92 94 = some (.ireturn, 1) := by decide +kernel
theorem o92_95 : zop 92 95 = some (.aload_n 0, 1) := by decide +kernel
theorem o92_96 : zop 92 96 = some (.getfield 801, 3) := by decide +kernel
theorem o92_99 : zop 92 99 = some (.getfield 707, 3) := by decide +kernel
theorem o92_102 : zop 92 102 = some (.iload_n 2, 1) := by decide +kernel
theorem o92_103 : zop 92 103 = some (.invokevirtual 41, 3) := by decide +kernel
theorem o92_106 : zop 92 106 = some (.aload_n 0, 1) := by decide +kernel
theorem o92_107 : zop 92 107 = some (.getfield 800, 3) := by decide +kernel
theorem o92_110 : zop 92 110 = some (.invokevirtual 34, 3) := by decide +kernel
theorem o92_113 : zop 92 113 = some (.iconst 1, 1) := by decide +kernel
theorem o92_114 : zop 92 114 = some (.ireturn, 1) := by decide +kernel
