theorem o136_0 : zop 136 0 = some (.iload_n 0, 1) := by decide +kernel
theorem o136_1 : zop 136 1 = some (.bipush 97, 2) := by decide +kernel
theorem o136_3 : zop 136 3 = some (.if_icmp .lt 13, 3) := by decide +kernel
theorem o136_6 : zop 136 6 = some (.iload_n 0, 1) := by decide +kernel
theorem o136_7 : zop 136 7 = some (.bipush 122, 2) := by decide +kernel
theorem o136_9 : zop 136 9 = some (.if_icmp .gt 7, 3) := by decide +kernel
theorem o136_12 : zop 136 12 = some (.iconst 1, 1) := by decide +kernel
theorem o136_13 : zop 136 13 = some (.goto 4, 3) := by decide +kernel
theorem o136_16 : zop 136 16 = some (.iconst 0, 1) := by decide +kernel
theorem o136_17 : zop 136 17 = some (.ireturn, 1) := by decide +kernel
theorem o137_0 : zop 137 0 = some (.iload_n 0, 1) := by decide +kernel
theorem o137_1 : zop 137 1 = some (.bipush 48, 2) := by decide +kernel
theorem o137_3 : zop 137 3 = some (.if_icmp .lt 13, 3) := by decide +kernel
theorem o137_6 : zop 137 6 = some (.iload_n 0, 1) := by decide +kernel
theorem o137_7 : zop 137 7 = some (.bipush 57, 2) := by decide +kernel
theorem o137_9 : zop 137 9 = some (.if_icmp .gt 7, 3) := by decide +kernel
theorem o137_12 : zop 137 12 = some (.iconst 1, 1) := by decide +kernel
theorem o137_13 : zop 137 13 = some (.goto 4, 3) := by decide +kernel
theorem o137_16 : zop 137 16 = some (.iconst 0, 1) := by decide +kernel
theorem o137_17 : zop 137 17 = some (.ireturn, 1) := by decide +kernel
theorem o138_0 : zop 138 0 = some (.iload_n 0, 1) := by decide +kernel
theorem o138_1 : zop 138 1 = some (.bipush 59, 2) := by decide +kernel
theorem o138_3 : zop 138 3 = some (.if_icmp .eq 51, 3) := by decide +kernel
theorem o138_6 : zop 138 6 = some (.iload_n 0, 1) := by decide +kernel
theorem o138_7 : zop 138 7 = some (.bipush 40, 2) := by decide +kernel
theorem o138_9 : zop 138 9 = some (.if_icmp .eq 45, 3) := by decide +kernel
theorem o138_12 : zop 138 12 = some (.iload_n 0, 1) := by decide +kernel
theorem o138_13 : zop 138 13 = some (.bipush 41, 2) := by decide +kernel
theorem o138_15 : zop 138 15 = some (.if_icmp .eq 39, 3) := by decide +kernel
theorem o138_18 : zop 138 18 = some (.iload_n 0, 1) := by decide +kernel
theorem o138_19 : zop 138 19 = some (.bipush 43, 2) := by decide +kernel
theorem o138_21 : zop 138 21 = some (.if_icmp .eq 33, 3) := by decide +kernel
theorem o138_24 : zop 138 24 = some (.iload_n 0, 1) := by decide +kernel
theorem o138_25 : zop 138 25 = some (.bipush 45, 2) := by decide +kernel
theorem o138_27 : zop 138 27 = some (.if_icmp .eq 27, 3) := by decide +kernel
theorem o138_30 : zop 138 30 = some (.iload_n 0, 1) := by decide +kernel
theorem o138_31 : zop 138 31 = some (.bipush 42, 2) := by decide +kernel
theorem o138_33 : zop 138 33 = some (.if_icmp .eq 21, 3) := by decide +kernel
theorem o138_36 : zop 138 36 = some (.iload_n 0, 1) := by decide +kernel
theorem o138_37 : zop 138 37 = some (.bipush 47, 2) := by decide +kernel
theorem o138_39 : zop 138 39 = some (.if_icmp .eq 15, 3) := by decide +kernel
theorem o138_42 : zop 138 42 = some (.iload_n 0, 1) := by decide +kernel
theorem o138_43 : zop 138 43 = some (.bipush 60, 2) := by decide +kernel
theorem o138_45 : zop 138 45 = some (.if_icmp .eq 9, 3) := by decide +kernel
theorem o138_48 : zop 138 48 = some (.iload_n 0, 1) := by decide +kernel
theorem o138_49 : zop 138 49 = some (.bipush 61, 2) := by decide +kernel
theorem o138_51 : zop 138 51 = some (.if_icmp .ne 7, 3) := by decide +kernel
theorem o138_54 : zop 138 54 = some (.iconst 1, 1) := by decide +kernel
theorem o138_55 : zop 138 55 = some (.goto 4, 3) := by decide +kernel
theorem o138_58 : zop 138 58 = some (.iconst 0, 1) := by decide +kernel
theorem o138_59 : zop 138 59 = some (.ireturn, 1) := by decide +kernel
theorem o139_0 : zop 139 0 = some (.aload_n 0, 1) := by decide +kernel
theorem o139_1 : zop 139 1 = some (.aload_n 0, 1) := by decide +kernel
theorem o139_2 : zop 139 2 = some (.getfield 1000, 3) := by decide +kernel
theorem o139_5 : zop 139 5 = some (.invokevirtual 140, 3) := by decide +kernel
theorem o139_8 : zop 139 8 = some (.istore_n 2, 1) := by decide +kernel
theorem o139_9 : zop 139 9 = some (.aload_n 0, 1) := by decide +kernel
theorem o139_10 : zop 139 10 = some (.ldc_w 41, 3) := by decide +kernel
theorem o139_13 : zop 139 13 = some (.invokevirtual 141, 3) := by decide +kernel
theorem o139_16 : zop 139 16 = some (.istore_n 3, 1) := by decide +kernel
theorem o139_17 : zop 139 17 = some (.iload_n 3, 1) := by decide +kernel
theorem o139_18 : zop 139 18 = some (.ifCond .eq 12, 3) := by decide +kernel
theorem o139_21 : zop 139 21 = some (.iload_n 1, 1) := by decide +kernel
theorem o139_22 : zop 139 22 = some (.ifCond .eq 8, 3) := by decide +kernel
theorem o139_25 : zop 139 25 = some (.aload_n 0, 1) := by decide +kernel
theorem o139_26 : zop 139 26 = some (.iconst 4, 1) := by decide +kernel
theorem o139_27 : zop 139 27 = some (.invokevirtual 142, 3) := by decide +kernel
theorem o139_30 : zop 139 30 = some (.iload_n 2, 1) := by decide +kernel
theorem o139_31 : zop 139 31 = some (.iconst (-1), 1) := by decide +kernel
theorem o139_32 : zop 139 32 = some (.if_icmp .eq 11, 3) := by decide +kernel
theorem o139_35 : zop 139 35 = some (.aload_n 0, 1) := by decide +kernel
theorem o139_36 : zop 139 36 = some (.iload_n 2, 1) := by decide +kernel
theorem o139_37 : zop 139 37 = some (.invokevirtual 143, 3) := by decide +kernel
theorem o139_40 : zop 139 40 = some (.goto 62, 3) := by decide +kernel
theorem o139_43 : zop 139 43 = some (.aload_n 0, 1) := by decide +kernel
theorem o139_44 : zop 139 44 = some (.ldc_w 42, 3) := by decide +kernel
theorem o139_47 : zop 139 47 = some (.invokevirtual 141, 3) := by decide +kernel
theorem o139_50 : zop 139 50 = some (.ifCond .eq 10, 3) := by decide +kernel
theorem o139_53 : zop 139 53 = some (.aload_n 0, 1) := by decide +kernel
theorem o139_54 : zop 139 54 = some (.invokevirtual 147, 3) := by decide +kernel
theorem o139_57 : zop 139 57 = some (.goto 45, 3) := by decide +kernel
theorem o139_60 : zop 139 60 = some (.aload_n 0, 1) := by decide +kernel
theorem o139_61 : zop 139 61 = some (.ldc_w 44, 3) := by decide +kernel
theorem o139_64 : zop 139 64 = some (.invokevirtual 148, 3) := by decide +kernel
theorem o139_67 : zop 139 67 = some (.ifCond .eq 10, 3) := by decide +kernel
theorem o139_70 : zop 139 70 = some (.aload_n 0, 1) := by decide +kernel
theorem o139_71 : zop 139 71 = some (.invokevirtual 149, 3) := by decide +kernel
theorem o139_74 : zop 139 74 = some (.goto 28, 3) := by decide +kernel
theorem o139_77 : zop 139 77 = some (.iload_n 3, 1) := by decide +kernel
theorem o139_78 : zop 139 78 = some (.ifCond .ne 8, 3) := by decide +kernel
theorem o139_81 : zop 139 81 = some (.aload_n 0, 1) := by decide +kernel
theorem o139_82 : zop 139 82 = some (.iconst 1, 1) := by decide +kernel
theorem o139_83 : zop 139 83 = some (.invokevirtual 142, 3) := by decide +kernel
theorem o139_86 : zop 139 86 = some (.aload_n 0, 1) := by decide +kernel
theorem o139_87 : zop 139 87 = some (.getfield 1021, 3) := by decide +kernel
theorem o139_90 : zop 139 90 = some (.ifCond .ne 7, 3) := by decide +kernel
theorem o139_93 : zop 139 93 = some (.aload_n 0, 1) := by decide +kernel
theorem o139_94 : zop 139 94 = some (.invokevirtual 134, 3) := by decide +kernel
theorem o139_97 : zop 139 97 = some (.aload_n 0, 1) := by decide +kernel
theorem o139_98 : zop 139 98 = some (.iconst 0, 1) := by decide +kernel
theorem o139_99 : zop 139 99 = some (.invokevirtual 150, 3) := by decide +kernel
theorem o139_102 : zop 139 102 = some (.aload_n 0, 1) := by decide +kernel
theorem o139_103 : zop 139 103 = some (.bipush 59, 2) := by decide +kernel
theorem o139_105 : zop 139 105 = some (.invokevirtual 158, 3) := by decide +kernel
theorem o139_108 : zop 139 108 = some (.iload_n 1, 1) := by decide +kernel
theorem o139_109 : zop 139 109 = some (.ifCond .ne 7, 3) := by decide +kernel
theorem o139_112 : zop 139 112 = some (.iload_n 3, 1) := by decide +kernel
theorem o139_113 : zop 139 113 = some (.ifCond .eq 7, 3) := by decide +kernel
theorem o139_116 : zop 139 116 = some (.iconst 1, 1) := by decide +kernel
theorem o139_117 : zop 139 117 = some (.goto 4, 3) := by decide +kernel
theorem o139_120 : zop 139 120 = some (.iconst 0, 1) := by decide +kernel
theorem o139_121 : zop 139 121 = some (.ireturn, 1) := by decide +kernel
theorem o140_0 : zop 140 0 = some (.iconst 0, 1) := by decide +kernel
theorem o140_1 : zop 140 1 = some (.istore_n 2, 1) := by decide +kernel
theorem o140_2 : zop 140 2 = some (.iload_n 2, 1) := by decide +kernel
theorem o140_3 : zop 140 3 = some (.aload_n 1, 1) := by decide +kernel
theorem o140_4 : zop 140 4 = some (.arraylength, 1) := by decide +kernel
theorem o140_5 : zop 140 5 = some (.if_icmp .ge 21, 3) := by decide +kernel
theorem o140_8 : zop 140 8 = some (.aload_n 0, 1) := by decide +kernel
theorem o140_9 : zop 140 9 = some (.aload_n 1, 1) := by decide +kernel
theorem o140_10 : zop 140 10 = some (.iload_n 2, 1) := by decide +kernel
theorem o140_11 : zop 140 11 = some (.aaload, 1) := by decide +kernel
theorem o140_12 : zop 140 12 = some (.invokevirtual 141, 3) := by decide +kernel
theorem o140_15 : zop 140 15 = some (.ifCond .eq 5, 3) := by decide +kernel
theorem o140_18 : zop 140 18 = some (.iload_n 2, 1) := by decide +kernel
theorem o140_19 : zop 140 19 = some (.ireturn, 1) := by decide +kernel
theorem o140_20 : zop 140 20 = some (.iinc 2 1, 3) := by decide +kernel
theorem o140_23 : zop 140 23 = some (.goto (-21), 3) := by decide +kernel
theorem o140_26 : zop 140 26 = some (.iconst (-1), 1) := by decide +kernel
theorem o140_27 : zop 140 27 = some (.ireturn, 1) := by decide +kernel
theorem o141_0 : zop 141 0 = some (.aload_n 0, 1) := by decide +kernel
theorem o141_1 : zop 141 1 = some (.getfield 1021, 3) := by decide +kernel
theorem o141_4 : zop 141 4 = some (.ifCond .ne 31, 3) := by decide +kernel
theorem o141_7 : zop 141 7 = some (.aload_n 0, 1) := by decide +kernel
theorem o141_8 : zop 141 8 = some (.getfield 1017, 3) := by decide +kernel
theorem o141_11 : zop 141 11 = some (.iconst 1, 1) := by decide +kernel
theorem o141_12 : zop 141 12 = some (.if_icmp .ne 23, 3) := by decide +kernel
theorem o141_15 : zop 141 15 = some (.aload_n 1, 1) := by decide +kernel
theorem o141_16 : zop 141 16 = some (.invokevirtual 226, 3) := by decide +kernel
theorem o141_19 : zop 141 19 = some (.aload_n 0, 1) := by decide +kernel
theorem o141_20 : zop 141 20 = some (.getfield 1020, 3) := by decide +kernel
theorem o141_23 : zop 141 23 = some (.aload_n 0, 1) := by decide +kernel
theorem o141_24 : zop 141 24 = some (.getfield 1019, 3) := by decide +kernel
theorem o141_27 : zop 141 27 = some (.isub, 1) := by decide +kernel
theorem o141_28 : zop 141 28 = some (.if_icmp .ne 7, 3) := by decide +kernel
theorem o141_31 : zop 141 31 = some (.iconst 1, 1) := by decide +kernel
theorem o141_32 : zop 141 32 = some (.goto 4, 3) := by decide +kernel
theorem o141_35 : zop 141 35 = some (.iconst 0, 1) := by decide +kernel
theorem o141_36 : zop 141 36 = some (.istore_n 2, 1) := by decide +kernel
theorem o141_37 : zop 141 37 = some (.iconst 0, 1) := by decide +kernel
theorem o141_38 : zop 141 38 = some (.istore_n 3, 1) := by decide +kernel
theorem o141_39 : zop 141 39 = some (.iload_n 2, 1) := by decide +kernel
theorem o141_40 : zop 141 40 = some (.ifCond .eq 42, 3) := by decide +kernel
theorem o141_43 : zop 141 43 = some (.iload_n 3, 1) := by decide +kernel
theorem o141_44 : zop 141 44 = some (.aload_n 1, 1) := by decide +kernel
theorem o141_45 : zop 141 45 = some (.invokevirtual 226, 3) := by decide +kernel
theorem o141_48 : zop 141 48 = some (.if_icmp .ge 34, 3) := by decide +kernel
theorem o141_51 : zop 141 51 = some (.aload_n 1, 1) := by decide +kernel
theorem o141_52 : zop 141 52 = some (.iload_n 3, 1) := by decide +kernel
theorem o141_53 : zop 141 53 = some (.invokevirtual 228, 3) := by decide +kernel
theorem o141_56 : zop 141 56 = some (.aload_n 0, 1) := by decide +kernel
theorem o141_57 : zop 141 57 = some (.getfield 1013, 3) := by decide +kernel
theorem o141_60 : zop 141 60 = some (.aload_n 0, 1) := by decide +kernel
theorem o141_61 : zop 141 61 = some (.getfield 1019, 3) := by decide +kernel
theorem o141_64 : zop 141 64 = some (.iload_n 3, 1) := by decide +kernel
theorem o141_65 : zop 141 65 = some (.iadd, 1) := by decide +kernel
theorem o141_66 : zop 141 66 = some (.iaload, 1) := by decide +kernel
theorem o141_67 : zop 141 67 = some (.if_icmp .ne 7, 3) := by decide +kernel
theorem o141_70 : zop 141 70 = some (.iconst 1, 1) := by decide +kernel
theorem o141_71 : zop 141 71 = some (.goto 4, 3) := by decide +kernel
theorem o141_74 : zop 141 74 = some (.iconst 0, 1) := by decide +kernel
theorem o141_75 : zop 141 75 = some (.istore_n 2, 1) := by decide +kernel
theorem o141_76 : zop 141 76 = some (.iinc 3 1, 3) := by decide +kernel
theorem o141_79 : zop 141 79 = some (.goto (-40), 3) := by decide +kernel
theorem o141_82 : zop 141 82 = some (.iload_n 2, 1) := by decide +kernel
theorem o141_83 : zop 141 83 = some (.ireturn, 1) := by decide +kernel
theorem o142_0 : zop 142 0 = some (.aload_n 0, 1) := by decide +kernel
theorem o142_1 : zop 142 1 = some (.getfield 1021, 3) := by decide +kernel
theorem o142_4 : zop 142 4 = some (.ifCond .eq 4, 3) := by decide +kernel
theorem o142_7 : zop 142 7 = some (.return_, 1) := by decide +kernel
theorem o142_8 : zop 142 8 = some (.aload_n 0, 1) := by decide +kernel
theorem o142_9 : zop 142 9 = some (.iload_n 1, 1) := by decide +kernel
theorem o142_10 : zop 142 10 = some (.putfield 1021, 3) := by decide +kernel
theorem o142_13 : zop 142 13 = some (.aload_n 0, 1) := by decide +kernel
theorem o142_14 : zop 142 14 = some (.aload_n 0, 1) := by decide +kernel
theorem o142_15 : zop 142 15 = some (.getfield 1019, 3) := by decide +kernel
theorem o142_18 : zop 142 18 = some (.putfield 1022, 3) := by decide +kernel
theorem o142_21 : zop 142 21 = some (.return_, 1) := by decide +kernel
theorem o143_0 : zop 143 0 = some (.aload_n 0, 1) := by decide +kernel
theorem o143_1 : zop 143 1 = some (.getfield 1003, 3) := by decide +kernel
theorem o143_4 : zop 143 4 = some (.bipush 6, 2) := by decide +kernel
theorem o143_6 : zop 143 6 = some (.iaload, 1) := by decide +kernel
theorem o143_7 : zop 143 7 = some (.iconst 5, 1) := by decide +kernel
theorem o143_8 : zop 143 8 = some (.if_icmp .ne 8, 3) := by decide +kernel
theorem o143_11 : zop 143 11 = some (.aload_n 0, 1) := by decide +kernel
theorem o143_12 : zop 143 12 = some (.iconst 2, 1) := by decide +kernel
theorem o143_13 : zop 143 13 = some (.invokevirtual 142, 3) := by decide +kernel
theorem o143_16 : zop 143 16 = some (.aload_n 0, 1) := by decide +kernel
theorem o143_17 : zop 143 17 = some (.getfield 1021, 3) := by decide +kernel
theorem o143_20 : zop 143 20 = some (.ifCond .eq 4, 3) := by decide +kernel
theorem o143_23 : zop 143 23 = some (.return_, 1) := by decide +kernel
theorem o143_24 : zop 143 24 = some (.aload_n 0, 1) := by decide +kernel
theorem o143_25 : zop 143 25 = some (.invokevirtual 134, 3) := by decide +kernel
theorem o143_28 : zop 143 28 = some (.iconst 5, 1) := by decide +kernel
theorem o143_29 : zop 143 29 = some (.aload_n 0, 1) := by decide +kernel
theorem o143_30 : zop 143 30 = some (.getfield 1003, 3) := by decide +kernel
theorem o143_33 : zop 143 33 = some (.bipush 6, 2) := by decide +kernel
theorem o143_35 : zop 143 35 = some (.iaload, 1) := by decide +kernel
theorem o143_36 : zop 143 36 = some (.iadd, 1) := by decide +kernel
theorem o143_37 : zop 143 37 = some (.istore_n 2, 1) := by decide +kernel
theorem o143_38 : zop 143 38 = some (.aload_n 0, 1) := by decide +kernel
theorem o143_39 : zop 143 39 = some (.getfield 1008, 3) := by decide +kernel
theorem o143_42 : zop 143 42 = some (.iload_n 2, 1) := by decide +kernel
theorem o143_43 : zop 143 43 = some (.iload_n 1, 1) := by decide +kernel
theorem o143_44 : zop 143 44 = some (.iastore, 1) := by decide +kernel
theorem o143_45 : zop 143 45 = some (.aload_n 0, 1) := by decide +kernel
theorem o143_46 : zop 143 46 = some (.getfield 1009, 3) := by decide +kernel
theorem o143_49 : zop 143 49 = some (.iload_n 2, 1) := by decide +kernel
theorem o143_50 : zop 143 50 = some (.aload_n 0, 1) := by decide +kernel
theorem o143_51 : zop 143 51 = some (.iconst 1, 1) := by decide +kernel
theorem o143_52 : zop 143 52 = some (.bipush 8, 2) := by decide +kernel
theorem o143_54 : zop 143 54 = some (.invokevirtual 144, 3) := by decide +kernel
theorem o143_57 : zop 143 57 = some (.iastore, 1) := by decide +kernel
theorem o143_58 : zop 143 58 = some (.aload_n 0, 1) := by decide +kernel
theorem o143_59 : zop 143 59 = some (.getfield 1010, 3) := by decide +kernel
theorem o143_62 : zop 143 62 = some (.iload_n 2, 1) := by decide +kernel
theorem o143_63 : zop 143 63 = some (.aload_n 0, 1) := by decide +kernel
theorem o143_64 : zop 143 64 = some (.invokevirtual 146, 3) := by decide +kernel
theorem o143_67 : zop 143 67 = some (.iastore, 1) := by decide +kernel
theorem o143_68 : zop 143 68 = some (.aload_n 0, 1) := by decide +kernel
theorem o143_69 : zop 143 69 = some (.getfield 1003, 3) := by decide +kernel
theorem o143_72 : zop 143 72 = some (.bipush 6, 2) := by decide +kernel
theorem o143_74 : zop 143 74 = some (.dup2, 1) := by decide +kernel
theorem o143_75 : zop 143 75 = some (.iaload, 1) := by decide +kernel
theorem o143_76 : zop 143 76 = some (.iconst 1, 1) := by decide +kernel
theorem o143_77 : zop 143 77 = some (.iadd, 1) := by decide +kernel
theorem o143_78 : zop 143 78 = some (.iastore, 1) := by decide +kernel
theorem o143_79 : zop 143 79 = some (.return_, 1) := by decide +kernel
theorem o144_0 : zop 144 0 = some (.aload_n 0, 1) := by decide +kernel
theorem o144_1 : zop 144 1 = some (.iload_n 1, 1) := by decide +kernel
theorem o144_2 : zop 144 2 = some (.iload_n 2, 1) := by decide +kernel
theorem o144_3 : zop 144 3 = some (.invokevirtual 145, 3) := by decide +kernel
theorem o144_6 : zop 144 6 = some (.istore_n 3, 1) := by decide +kernel
theorem o144_7 : zop 144 7 = some (.aload_n 0, 1) := by decide +kernel
theorem o144_8 : zop 144 8 = some (.getfield 1021, 3) := by decide +kernel
theorem o144_11 : zop 144 11 = some (.ifCond .ne 7, 3) := by decide +kernel
theorem o144_14 : zop 144 14 = some (.aload_n 0, 1) := by decide +kernel
theorem o144_15 : zop 144 15 = some (.invokevirtual 134, 3) := by decide +kernel
theorem o144_18 : zop 144 18 = some (.iload_n 3, 1) := by decide +kernel
theorem o144_19 : zop 144 19 = some (.ireturn, 1) := by decide +kernel
theorem o145_0 : zop 145 0 = some (.aload_n 0, 1) := by decide +kernel
theorem o145_1 : zop 145 1 = some (.getfield 1021, 3) := by decide +kernel
theorem o145_4 : zop 145 4 = some (.ifCond .eq 5, 3) := by decide +kernel
theorem o145_7 : zop 145 7 = some (.iconst 0, 1) := by decide +kernel
theorem o145_8 : zop 145 8 = some (.ireturn, 1) := by decide +kernel
theorem o145_9 : zop 145 9 = some (.aload_n 0, 1) := by decide +kernel
theorem o145_10 : zop 145 10 = some (.getfield 1017, 3) := by decide +kernel
theorem o145_13 : zop 145 13 = some (.iconst 2, 1) := by decide +kernel
theorem o145_14 : zop 145 14 = some (.if_icmp .eq 11, 3) := by decide +kernel
theorem o145_17 : zop 145 17 = some (.aload_n 0, 1) := by decide +kernel
theorem o145_18 : zop 145 18 = some (.iconst 1, 1) := by decide +kernel
theorem o145_19 : zop 145 19 = some (.invokevirtual 142, 3) := by decide +kernel
theorem o145_22 : zop 145 22 = some (.goto 37, 3) := by decide +kernel
theorem o145_25 : zop 145 25 = some (.aload_n 0, 1) := by decide +kernel
theorem o145_26 : zop 145 26 = some (.getfield 1020, 3) := by decide +kernel
theorem o145_29 : zop 145 29 = some (.aload_n 0, 1) := by decide +kernel
theorem o145_30 : zop 145 30 = some (.getfield 1019, 3) := by decide +kernel
theorem o145_33 : zop 145 33 = some (.isub, 1) := by decide +kernel
theorem o145_34 : zop 145 34 = some (.iconst 4, 1) := by decide +kernel
theorem o145_35 : zop 145 35 = some (.if_icmp .gt 19, 3) := by decide +kernel
theorem o145_38 : zop 145 38 = some (.aload_n 0, 1) := by decide +kernel
theorem o145_39 : zop 145 39 = some (.getfield 1018, 3) := by decide +kernel
theorem o145_42 : zop 145 42 = some (.iload_n 1, 1) := by decide +kernel
theorem o145_43 : zop 145 43 = some (.if_icmp .lt 11, 3) := by decide +kernel
theorem o145_46 : zop 145 46 = some (.aload_n 0, 1) := by decide +kernel
theorem o145_47 : zop 145 47 = some (.getfield 1018, 3) := by decide +kernel
theorem o145_50 : zop 145 50 = some (.iload_n 2, 1) := by decide +kernel
theorem o145_51 : zop 145 51 = some (.if_icmp .le 8, 3) := by decide +kernel
theorem o145_54 : zop 145 54 = some (.aload_n 0, 1) := by decide +kernel
theorem o145_55 : zop 145 55 = some (.iconst 2, 1) := by decide +kernel
theorem o145_56 : zop 145 56 = some (.invokevirtual 142, 3) := by decide +kernel
theorem o145_59 : zop 145 59 = some (.aload_n 0, 1) := by decide +kernel
theorem o145_60 : zop 145 60 = some (.getfield 1021, 3) := by decide +kernel
theorem o145_63 : zop 145 63 = some (.ifCond .ne 10, 3) := by decide +kernel
theorem o145_66 : zop 145 66 = some (.aload_n 0, 1) := by decide +kernel
theorem o145_67 : zop 145 67 = some (.getfield 1018, 3) := by decide +kernel
theorem o145_70 : zop 145 70 = some (.goto 4, 3) := by decide +kernel
theorem o145_73 : zop 145 73 = some (.iconst 0, 1) := by decide +kernel
theorem o145_74 : zop 145 74 = some (.ireturn, 1) := by decide +kernel
theorem o146_0 : zop 146 0 = some (.aload_n 0, 1) := by decide +kernel
theorem o146_1 : zop 146 1 = some (.iconst 0, 1) := by decide +kernel
theorem o146_2 : zop 146 2 = some (.sipush 9999, 3) := by decide +kernel
theorem o146_5 : zop 146 5 = some (.invokevirtual 145, 3) := by decide +kernel
theorem o146_8 : zop 146 8 = some (.istore_n 1, 1) := by decide +kernel
theorem o146_9 : zop 146 9 = some (.aload_n 0, 1) := by decide +kernel
theorem o146_10 : zop 146 10 = some (.getfield 1021, 3) := by decide +kernel
theorem o146_13 : zop 146 13 = some (.ifCond .ne 18, 3) := by decide +kernel
theorem o146_16 : zop 146 16 = some (.iload_n 1, 1) := by decide +kernel
theorem o146_17 : zop 146 17 = some (.aload_n 0, 1) := by decide +kernel
theorem o146_18 : zop 146 18 = some (.getfield 1003, 3) := by decide +kernel
theorem o146_21 : zop 146 21 = some (.iconst 4, 1) := by decide +kernel
theorem o146_22 : zop 146 22 = some (.iaload, 1) := by decide +kernel
theorem o146_23 : zop 146 23 = some (.if_icmp .lt 8, 3) := by decide +kernel
theorem o146_26 : zop 146 26 = some (.aload_n 0, 1) := by decide +kernel
theorem o146_27 : zop 146 27 = some (.iconst 3, 1) := by decide +kernel
theorem o146_28 : zop 146 28 = some (.invokevirtual 142, 3) := by decide +kernel
theorem o146_31 : zop 146 31 = some (.aload_n 0, 1) := by decide +kernel
theorem o146_32 : zop 146 32 = some (.getfield 1021, 3) := by decide +kernel
theorem o146_35 : zop 146 35 = some (.ifCond .ne 7, 3) := by decide +kernel
theorem o146_38 : zop 146 38 = some (.aload_n 0, 1) := by decide +kernel
theorem o146_39 : zop 146 39 = some (.invokevirtual 134, 3) := by decide +kernel
theorem o146_42 : zop 146 42 = some (.aload_n 0, 1) := by decide +kernel
theorem o146_43 : zop 146 43 = some (.getfield 1021, 3) := by decide +kernel
theorem o146_46 : zop 146 46 = some (.ifCond .ne 7, 3) := by decide +kernel
theorem o146_49 : zop 146 49 = some (.iload_n 1, 1) := by decide +kernel
theorem o146_50 : zop 146 50 = some (.goto 4, 3) := by decide +kernel
theorem o146_53 : zop 146 53 = some (.iconst 0, 1) := by decide +kernel
theorem o146_54 : zop 146 54 = some (.ireturn, 1) := by decide +kernel
theorem o147_0 : zop 147 0 = some (.aload_n 0, 1) := by decide +kernel
theorem o147_1 : zop 147 1 = some (.getfield 1003, 3) := by decide +kernel
theorem o147_4 : zop 147 4 = some (.iconst 4, 1) := by decide +kernel
theorem o147_5 : zop 147 5 = some (.iaload, 1) := by decide +kernel
theorem o147_6 : zop 147 6 = some (.bipush 6, 2) := by decide +kernel
theorem o147_8 : zop 147 8 = some (.if_icmp .ne 8, 3) := by decide +kernel
theorem o147_11 : zop 147 11 = some (.aload_n 0, 1) := by decide +kernel
theorem o147_12 : zop 147 12 = some (.iconst 2, 1) := by decide +kernel
theorem o147_13 : zop 147 13 = some (.invokevirtual 142, 3) := by decide +kernel
theorem o147_16 : zop 147 16 = some (.aload_n 0, 1) := by decide +kernel
theorem o147_17 : zop 147 17 = some (.getfield 1021, 3) := by decide +kernel
theorem o147_20 : zop 147 20 = some (.ifCond .eq 4, 3) := by decide +kernel
theorem o147_23 : zop 147 23 = some (.return_, 1) := by decide +kernel
theorem o147_24 : zop 147 24 = some (.aload_n 0, 1) := by decide +kernel
theorem o147_25 : zop 147 25 = some (.invokevirtual 134, 3) := by decide +kernel
theorem o147_28 : zop 147 28 = some (.bipush 6, 2) := by decide +kernel
theorem o147_30 : zop 147 30 = some (.aload_n 0, 1) := by decide +kernel
theorem o147_31 : zop 147 31 = some (.getfield 1003, 3) := by decide +kernel
theorem o147_34 : zop 147 34 = some (.iconst 4, 1) := by decide +kernel
theorem o147_35 : zop 147 35 = some (.iaload, 1) := by decide +kernel
theorem o147_36 : zop 147 36 = some (.iadd, 1) := by decide +kernel
theorem o147_37 : zop 147 37 = some (.istore_n 1, 1) := by decide +kernel
theorem o147_38 : zop 147 38 = some (.aload_n 0, 1) := by decide +kernel
theorem o147_39 : zop 147 39 = some (.getfield 1004, 3) := by decide +kernel
theorem o147_42 : zop 147 42 = some (.iload_n 1, 1) := by decide +kernel
theorem o147_43 : zop 147 43 = some (.aload_n 0, 1) := by decide +kernel
theorem o147_44 : zop 147 44 = some (.iconst 0, 1) := by decide +kernel
theorem o147_45 : zop 147 45 = some (.bipush 40, 2) := by decide +kernel
theorem o147_47 : zop 147 47 = some (.invokevirtual 144, 3) := by decide +kernel
theorem o147_50 : zop 147 50 = some (.iastore, 1) := by decide +kernel
theorem o147_51 : zop 147 51 = some (.aload_n 0, 1) := by decide +kernel
theorem o147_52 : zop 147 52 = some (.getfield 1005, 3) := by decide +kernel
theorem o147_55 : zop 147 55 = some (.iload_n 1, 1) := by decide +kernel
theorem o147_56 : zop 147 56 = some (.aload_n 0, 1) := by decide +kernel
theorem o147_57 : zop 147 57 = some (.ldc_w 43, 3) := by decide +kernel
theorem o147_60 : zop 147 60 = some (.invokevirtual 148, 3) := by decide +kernel
theorem o147_63 : zop 147 63 = some (.ifCond .eq 13, 3) := by decide +kernel
theorem o147_66 : zop 147 66 = some (.aload_n 0, 1) := by decide +kernel
theorem o147_67 : zop 147 67 = some (.iconst 0, 1) := by decide +kernel
theorem o147_68 : zop 147 68 = some (.bipush 99, 2) := by decide +kernel
theorem o147_70 : zop 147 70 = some (.invokevirtual 144, 3) := by decide +kernel
theorem o147_73 : zop 147 73 = some (.goto 4, 3) := by decide +kernel
theorem o147_76 : zop 147 76 = some (.iconst 1, 1) := by decide +kernel
theorem o147_77 : zop 147 77 = some (.iastore, 1) := by decide +kernel
theorem o147_78 : zop 147 78 = some (.aload_n 0, 1) := by decide +kernel
theorem o147_79 : zop 147 79 = some (.getfield 1003, 3) := by decide +kernel
theorem o147_82 : zop 147 82 = some (.iconst 4, 1) := by decide +kernel
theorem o147_83 : zop 147 83 = some (.dup2, 1) := by decide +kernel
theorem o147_84 : zop 147 84 = some (.iaload, 1) := by decide +kernel
theorem o147_85 : zop 147 85 = some (.iconst 1, 1) := by decide +kernel
theorem o147_86 : zop 147 86 = some (.iadd, 1) := by decide +kernel
theorem o147_87 : zop 147 87 = some (.iastore, 1) := by decide +kernel
theorem o147_88 : zop 147 88 = some (.return_, 1) := by decide +kernel
theorem o148_0 : zop 148 0 = some (.aload_n 0, 1) := by decide +kernel
theorem o148_1 : zop 148 1 = some (.aload_n 1, 1) := by decide +kernel
theorem o148_2 : zop 148 2 = some (.invokevirtual 141, 3) := by decide +kernel
theorem o148_5 : zop 148 5 = some (.istore_n 2, 1) := by decide +kernel
theorem o148_6 : zop 148 6 = some (.iload_n 2, 1) := by decide +kernel
theorem o148_7 : zop 148 7 = some (.ifCond .eq 7, 3) := by decide +kernel
theorem o148_10 : zop 148 10 = some (.aload_n 0, 1) := by decide +kernel
theorem o148_11 : zop 148 11 = some (.invokevirtual 134, 3) := by decide +kernel
theorem o148_14 : zop 148 14 = some (.iload_n 2, 1) := by decide +kernel
theorem o148_15 : zop 148 15 = some (.ireturn, 1) := by decide +kernel
theorem o149_0 : zop 149 0 = some (.aload_n 0, 1) := by decide +kernel
theorem o149_1 : zop 149 1 = some (.invokevirtual 146, 3) := by decide +kernel
theorem o149_4 : zop 149 4 = some (.istore_n 1, 1) := by decide +kernel
theorem o149_5 : zop 149 5 = some (.aload_n 0, 1) := by decide +kernel
theorem o149_6 : zop 149 6 = some (.iconst 1, 1) := by decide +kernel
theorem o149_7 : zop 149 7 = some (.bipush 20, 2) := by decide +kernel
theorem o149_9 : zop 149 9 = some (.invokevirtual 145, 3) := by decide +kernel
theorem o149_12 : zop 149 12 = some (.istore_n 2, 1) := by decide +kernel
theorem o149_13 : zop 149 13 = some (.aload_n 0, 1) := by decide +kernel
theorem o149_14 : zop 149 14 = some (.getfield 1021, 3) := by decide +kernel
theorem o149_17 : zop 149 17 = some (.ifCond .ne 21, 3) := by decide +kernel
theorem o149_20 : zop 149 20 = some (.aload_n 0, 1) := by decide +kernel
theorem o149_21 : zop 149 21 = some (.getfield 1003, 3) := by decide +kernel
theorem o149_24 : zop 149 24 = some (.iconst 5, 1) := by decide +kernel
theorem o149_25 : zop 149 25 = some (.iaload, 1) := by decide +kernel
theorem o149_26 : zop 149 26 = some (.iload_n 2, 1) := by decide +kernel
theorem o149_27 : zop 149 27 = some (.iadd, 1) := by decide +kernel
theorem o149_28 : zop 149 28 = some (.bipush 40, 2) := by decide +kernel
theorem o149_30 : zop 149 30 = some (.if_icmp .le 8, 3) := by decide +kernel
theorem o149_33 : zop 149 33 = some (.aload_n 0, 1) := by decide +kernel
theorem o149_34 : zop 149 34 = some (.iconst 2, 1) := by decide +kernel
theorem o149_35 : zop 149 35 = some (.invokevirtual 142, 3) := by decide +kernel
theorem o149_38 : zop 149 38 = some (.aload_n 0, 1) := by decide +kernel
theorem o149_39 : zop 149 39 = some (.getfield 1021, 3) := by decide +kernel
theorem o149_42 : zop 149 42 = some (.ifCond .ne 7, 3) := by decide +kernel
theorem o149_45 : zop 149 45 = some (.aload_n 0, 1) := by decide +kernel
theorem o149_46 : zop 149 46 = some (.invokevirtual 134, 3) := by decide +kernel
theorem o149_49 : zop 149 49 = some (.aload_n 0, 1) := by decide +kernel
theorem o149_50 : zop 149 50 = some (.iconst 0, 1) := by decide +kernel
theorem o149_51 : zop 149 51 = some (.bipush 9, 2) := by decide +kernel
theorem o149_53 : zop 149 53 = some (.invokevirtual 144, 3) := by decide +kernel
theorem o149_56 : zop 149 56 = some (.istore_n 3, 1) := by decide +kernel
theorem o149_57 : zop 149 57 = some (.iconst 0, 1) := by decide +kernel
theorem o149_58 : zop 149 58 = some (.istore 4, 2) := by decide +kernel
theorem o149_60 : zop 149 60 = some (.iload 4, 2) := by decide +kernel
theorem o149_62 : zop 149 62 = some (.iload_n 2, 1) := by decide +kernel
theorem o149_63 : zop 149 63 = some (.if_icmp .ge 56, 3) := by decide +kernel
theorem o149_66 : zop 149 66 = some (.aload_n 0, 1) := by decide +kernel
theorem o149_67 : zop 149 67 = some (.getfield 1021, 3) := by decide +kernel
theorem o149_70 : zop 149 70 = some (.ifCond .ne 49, 3) := by decide +kernel
theorem o149_73 : zop 149 73 = some (.aload_n 0, 1) := by decide +kernel
theorem o149_74 : zop 149 74 = some (.getfield 1006, 3) := by decide +kernel
theorem o149_77 : zop 149 77 = some (.bipush 40, 2) := by decide +kernel
theorem o149_79 : zop 149 79 = some (.aload_n 0, 1) := by decide +kernel
theorem o149_80 : zop 149 80 = some (.getfield 1003, 3) := by decide +kernel
theorem o149_83 : zop 149 83 = some (.iconst 5, 1) := by decide +kernel
theorem o149_84 : zop 149 84 = some (.iaload, 1) := by decide +kernel
theorem o149_85 : zop 149 85 = some (.iadd, 1) := by decide +kernel
theorem o149_86 : zop 149 86 = some (.iload_n 1, 1) := by decide +kernel
theorem o149_87 : zop 149 87 = some (.iastore, 1) := by decide +kernel
theorem o149_88 : zop 149 88 = some (.aload_n 0, 1) := by decide +kernel
theorem o149_89 : zop 149 89 = some (.getfield 1007, 3) := by decide +kernel
theorem o149_92 : zop 149 92 = some (.bipush 40, 2) := by decide +kernel
theorem o149_94 : zop 149 94 = some (.aload_n 0, 1) := by decide +kernel
theorem o149_95 : zop 149 95 = some (.getfield 1003, 3) := by decide +kernel
theorem o149_98 : zop 149 98 = some (.iconst 5, 1) := by decide +kernel
theorem o149_99 : zop 149 99 = some (.iaload, 1) := by decide +kernel
theorem o149_100 : zop 149 100 = some (.iadd, 1) := by decide +kernel
theorem o149_101 : zop 149 101 = some (.iload_n 3, 1) := by decide +kernel
theorem o149_102 : zop 149 102 = some (.iastore, 1) := by decide +kernel
theorem o149_103 : zop 149 103 = some (.aload_n 0, 1) := by decide +kernel
theorem o149_104 : zop 149 104 = some (.getfield 1003, 3) := by decide +kernel
theorem o149_107 : zop 149 107 = some (.iconst 5, 1) := by decide +kernel
theorem o149_108 : zop 149 108 = some (.dup2, 1) := by decide +kernel
theorem o149_109 : zop 149 109 = some (.iaload, 1) := by decide +kernel
theorem o149_110 : zop 149 110 = some (.iconst 1, 1) := by decide +kernel
theorem o149_111 : zop 149 111 = some (.iadd, 1) := by decide +kernel
theorem o149_112 : zop 149 112 = some (.iastore, 1) := by decide +kernel
theorem o149_113 : zop 149 113 = some (.iinc 4 1, 3) := by decide +kernel
theorem o149_116 : zop 149 116 = some (.goto (-56), 3) := by decide +kernel
theorem o149_119 : zop 149 119 = some (.return_, 1) := by decide +kernel
theorem o150_0 : zop 150 0 = some (.aload_n 0, 1) := by decide +kernel
theorem o150_1 : zop 150 1 = some (.getfield 1021, 3) := by decide +kernel
theorem o150_4 : zop 150 4 = some (.ifCond .eq 4, 3) := by decide +kernel
theorem o150_7 : zop 150 7 = some (.return_, 1) := by decide +kernel
theorem o150_8 : zop 150 8 = some (.aload_n 0, 1) := by decide +kernel
theorem o150_9 : zop 150 9 = some (.getfield 1017, 3) := by decide +kernel
theorem o150_12 : zop 150 12 = some (.iconst 2, 1) := by decide +kernel
theorem o150_13 : zop 150 13 = some (.if_icmp .eq 20, 3) := by decide +kernel
theorem o150_16 : zop 150 16 = some (.aload_n 0, 1) := by decide +kernel
theorem o150_17 : zop 150 17 = some (.getfield 1017, 3) := by decide +kernel
theorem o150_20 : zop 150 20 = some (.iconst 1, 1) := by decide +kernel
theorem o150_21 : zop 150 21 = some (.if_icmp .eq 12, 3) := by decide +kernel
theorem o150_24 : zop 150 24 = some (.aload_n 0, 1) := by decide +kernel
theorem o150_25 : zop 150 25 = some (.bipush 40, 2) := by decide +kernel
theorem o150_27 : zop 150 27 = some (.invokevirtual 151, 3) := by decide +kernel
theorem o150_30 : zop 150 30 = some (.ifCond .eq 7, 3) := by decide +kernel
theorem o150_33 : zop 150 33 = some (.iconst 1, 1) := by decide +kernel
theorem o150_34 : zop 150 34 = some (.goto 4, 3) := by decide +kernel
theorem o150_37 : zop 150 37 = some (.iconst 0, 1) := by decide +kernel
theorem o150_38 : zop 150 38 = some (.istore_n 2, 1) := by decide +kernel
theorem o150_39 : zop 150 39 = some (.iload_n 2, 1) := by decide +kernel
theorem o150_40 : zop 150 40 = some (.ifCond .ne 11, 3) := by decide +kernel
theorem o150_43 : zop 150 43 = some (.aload_n 0, 1) := by decide +kernel
theorem o150_44 : zop 150 44 = some (.iconst 1, 1) := by decide +kernel
theorem o150_45 : zop 150 45 = some (.invokevirtual 142, 3) := by decide +kernel
theorem o150_48 : zop 150 48 = some (.goto 14, 3) := by decide +kernel
theorem o150_51 : zop 150 51 = some (.iload_n 1, 1) := by decide +kernel
theorem o150_52 : zop 150 52 = some (.bipush 6, 2) := by decide +kernel
theorem o150_54 : zop 150 54 = some (.if_icmp .ne 8, 3) := by decide +kernel
theorem o150_57 : zop 150 57 = some (.aload_n 0, 1) := by decide +kernel
theorem o150_58 : zop 150 58 = some (.iconst 2, 1) := by decide +kernel
theorem o150_59 : zop 150 59 = some (.invokevirtual 142, 3) := by decide +kernel
theorem o150_62 : zop 150 62 = some (.aload_n 0, 1) := by decide +kernel
theorem o150_63 : zop 150 63 = some (.iload_n 1, 1) := by decide +kernel
theorem o150_64 : zop 150 64 = some (.invokevirtual 152, 3) := by decide +kernel
theorem o150_67 : zop 150 67 = some (.aload_n 0, 1) := by decide +kernel
theorem o150_68 : zop 150 68 = some (.ldc_w 47, 3) := by decide +kernel
theorem o150_71 : zop 150 71 = some (.invokevirtual 141, 3) := by decide +kernel
theorem o150_74 : zop 150 74 = some (.ifCond .eq 21, 3) := by decide +kernel
theorem o150_77 : zop 150 77 = some (.aload_n 0, 1) := by decide +kernel
theorem o150_78 : zop 150 78 = some (.invokevirtual 134, 3) := by decide +kernel
theorem o150_81 : zop 150 81 = some (.aload_n 0, 1) := by decide +kernel
theorem o150_82 : zop 150 82 = some (.iload_n 1, 1) := by decide +kernel
theorem o150_83 : zop 150 83 = some (.invokevirtual 152, 3) := by decide +kernel
theorem o150_86 : zop 150 86 = some (.aload_n 0, 1) := by decide +kernel
theorem o150_87 : zop 150 87 = some (.bipush (-27), 2) := by decide +kernel
theorem o150_89 : zop 150 89 = some (.invokevirtual 157, 3) := by decide +kernel
theorem o150_92 : zop 150 92 = some (.goto (-25), 3) := by decide +kernel
theorem o150_95 : zop 150 95 = some (.return_, 1) := by decide +kernel
theorem o151_0 : zop 151 0 = some (.aload_n 0, 1) := by decide +kernel
theorem o151_1 : zop 151 1 = some (.getfield 1021, 3) := by decide +kernel
theorem o151_4 : zop 151 4 = some (.ifCond .ne 28, 3) := by decide +kernel
theorem o151_7 : zop 151 7 = some (.aload_n 0, 1) := by decide +kernel
theorem o151_8 : zop 151 8 = some (.getfield 1017, 3) := by decide +kernel
theorem o151_11 : zop 151 11 = some (.iconst 3, 1) := by decide +kernel
theorem o151_12 : zop 151 12 = some (.if_icmp .ne 20, 3) := by decide +kernel
theorem o151_15 : zop 151 15 = some (.aload_n 0, 1) := by decide +kernel
theorem o151_16 : zop 151 16 = some (.getfield 1013, 3) := by decide +kernel
theorem o151_19 : zop 151 19 = some (.aload_n 0, 1) := by decide +kernel
theorem o151_20 : zop 151 20 = some (.getfield 1019, 3) := by decide +kernel
theorem o151_23 : zop 151 23 = some (.iaload, 1) := by decide +kernel
theorem o151_24 : zop 151 24 = some (.iload_n 1, 1) := by decide +kernel
theorem o151_25 : zop 151 25 = some (.if_icmp .ne 7, 3) := by decide +kernel
theorem o151_28 : zop 151 28 = some (.iconst 1, 1) := by decide +kernel
theorem o151_29 : zop 151 29 = some (.goto 4, 3) := by decide +kernel
theorem o151_32 : zop 151 32 = some (.iconst 0, 1) := by decide +kernel
theorem o151_33 : zop 151 33 = some (.ireturn, 1) := by decide +kernel
theorem o152_0 : zop 152 0 = some (.aload_n 0, 1) := by decide +kernel
theorem o152_1 : zop 152 1 = some (.iload_n 1, 1) := by decide +kernel
theorem o152_2 : zop 152 2 = some (.invokevirtual 153, 3) := by decide +kernel
theorem o152_5 : zop 152 5 = some (.aload_n 0, 1) := by decide +kernel
theorem o152_6 : zop 152 6 = some (.ldc_w 46, 3) := by decide +kernel
theorem o152_9 : zop 152 9 = some (.invokevirtual 141, 3) := by decide +kernel
theorem o152_12 : zop 152 12 = some (.ifCond .eq 21, 3) := by decide +kernel
theorem o152_15 : zop 152 15 = some (.aload_n 0, 1) := by decide +kernel
theorem o152_16 : zop 152 16 = some (.invokevirtual 134, 3) := by decide +kernel
theorem o152_19 : zop 152 19 = some (.aload_n 0, 1) := by decide +kernel
theorem o152_20 : zop 152 20 = some (.iload_n 1, 1) := by decide +kernel
theorem o152_21 : zop 152 21 = some (.invokevirtual 153, 3) := by decide +kernel
theorem o152_24 : zop 152 24 = some (.aload_n 0, 1) := by decide +kernel
theorem o152_25 : zop 152 25 = some (.bipush (-26), 2) := by decide +kernel
theorem o152_27 : zop 152 27 = some (.invokevirtual 157, 3) := by decide +kernel
theorem o152_30 : zop 152 30 = some (.goto (-25), 3) := by decide +kernel
theorem o152_33 : zop 152 33 = some (.return_, 1) := by decide +kernel
theorem o153_0 : zop 153 0 = some (.iconst 0, 1) := by decide +kernel
theorem o153_1 : zop 153 1 = some (.istore_n 2, 1) := by decide +kernel
theorem o153_2 : zop 153 2 = some (.aload_n 0, 1) := by decide +kernel
theorem o153_3 : zop 153 3 = some (.ldc 45, 2) := by decide +kernel
theorem o153_5 : zop 153 5 = some (.invokevirtual 141, 3) := by decide +kernel
theorem o153_8 : zop 153 8 = some (.ifCond .eq 31, 3) := by decide +kernel
theorem o153_11 : zop 153 11 = some (.iload_n 2, 1) := by decide +kernel
theorem o153_12 : zop 153 12 = some (.bipush 6, 2) := by decide +kernel
theorem o153_14 : zop 153 14 = some (.if_icmp .ne 8, 3) := by decide +kernel
theorem o153_17 : zop 153 17 = some (.aload_n 0, 1) := by decide +kernel
theorem o153_18 : zop 153 18 = some (.iconst 2, 1) := by decide +kernel
theorem o153_19 : zop 153 19 = some (.invokevirtual 142, 3) := by decide +kernel
theorem o153_22 : zop 153 22 = some (.iinc 2 1, 3) := by decide +kernel
theorem o153_25 : zop 153 25 = some (.aload_n 0, 1) := by decide +kernel
theorem o153_26 : zop 153 26 = some (.getfield 1021, 3) := by decide +kernel
theorem o153_29 : zop 153 29 = some (.ifCond .ne (-27), 3) := by decide +kernel
theorem o153_32 : zop 153 32 = some (.aload_n 0, 1) := by decide +kernel
theorem o153_33 : zop 153 33 = some (.invokevirtual 134, 3) := by decide +kernel
theorem o153_36 : zop 153 36 = some (.goto (-34), 3) := by decide +kernel
theorem o153_39 : zop 153 39 = some (.aload_n 0, 1) := by decide +kernel
theorem o153_40 : zop 153 40 = some (.iload_n 1, 1) := by decide +kernel
theorem o153_41 : zop 153 41 = some (.invokevirtual 154, 3) := by decide +kernel
theorem o153_44 : zop 153 44 = some (.aload_n 0, 1) := by decide +kernel
theorem o153_45 : zop 153 45 = some (.bipush 60, 2) := by decide +kernel
theorem o153_47 : zop 153 47 = some (.invokevirtual 151, 3) := by decide +kernel
theorem o153_50 : zop 153 50 = some (.ifCond .ne 12, 3) := by decide +kernel
theorem o153_53 : zop 153 53 = some (.aload_n 0, 1) := by decide +kernel
theorem o153_54 : zop 153 54 = some (.bipush 61, 2) := by decide +kernel
theorem o153_56 : zop 153 56 = some (.invokevirtual 151, 3) := by decide +kernel
theorem o153_59 : zop 153 59 = some (.ifCond .eq 34, 3) := by decide +kernel
theorem o153_62 : zop 153 62 = some (.aload_n 0, 1) := by decide +kernel
theorem o153_63 : zop 153 63 = some (.bipush 60, 2) := by decide +kernel
theorem o153_65 : zop 153 65 = some (.invokevirtual 151, 3) := by decide +kernel
theorem o153_68 : zop 153 68 = some (.ifCond .eq 8, 3) := by decide +kernel
theorem o153_71 : zop 153 71 = some (.bipush (-24), 2) := by decide +kernel
theorem o153_73 : zop 153 73 = some (.goto 5, 3) := by decide +kernel
theorem o153_76 : zop 153 76 = some (.bipush (-25), 2) := by decide +kernel
theorem o153_78 : zop 153 78 = some (.istore_n 3, 1) := by decide +kernel
theorem o153_79 : zop 153 79 = some (.aload_n 0, 1) := by decide +kernel
theorem o153_80 : zop 153 80 = some (.invokevirtual 134, 3) := by decide +kernel
theorem o153_83 : zop 153 83 = some (.aload_n 0, 1) := by decide +kernel
theorem o153_84 : zop 153 84 = some (.iload_n 1, 1) := by decide +kernel
theorem o153_85 : zop 153 85 = some (.invokevirtual 154, 3) := by decide +kernel
theorem o153_88 : zop 153 88 = some (.aload_n 0, 1) := by decide +kernel
theorem o153_89 : zop 153 89 = some (.iload_n 3, 1) := by decide +kernel
theorem o153_90 : zop 153 90 = some (.invokevirtual 157, 3) := by decide +kernel
theorem o153_93 : zop 153 93 = some (.iconst 0, 1) := by decide +kernel
theorem o153_94 : zop 153 94 = some (.istore_n 3, 1) := by decide +kernel
theorem o153_95 : zop 153 95 = some (.iload_n 3, 1) := by decide +kernel
theorem o153_96 : zop 153 96 = some (.iload_n 2, 1) := by decide +kernel
theorem o153_97 : zop 153 97 = some (.if_icmp .ge 15, 3) := by decide +kernel
theorem o153_100 : zop 153 100 = some (.aload_n 0, 1) := by decide +kernel
theorem o153_101 : zop 153 101 = some (.bipush (-28), 2) := by decide +kernel
theorem o153_103 : zop 153 103 = some (.invokevirtual 157, 3) := by decide +kernel
theorem o153_106 : zop 153 106 = some (.iinc 3 1, 3) := by decide +kernel
theorem o153_109 : zop 153 109 = some (.goto (-14), 3) := by decide +kernel
theorem o153_112 : zop 153 112 = some (.return_, 1) := by decide +kernel
theorem o154_0 : zop 154 0 = some (.aload_n 0, 1) := by decide +kernel
theorem o154_1 : zop 154 1 = some (.iload_n 1, 1) := by decide +kernel
theorem o154_2 : zop 154 2 = some (.invokevirtual 155, 3) := by decide +kernel
theorem o154_5 : zop 154 5 = some (.aload_n 0, 1) := by decide +kernel
theorem o154_6 : zop 154 6 = some (.bipush 43, 2) := by decide +kernel
theorem o154_8 : zop 154 8 = some (.invokevirtual 151, 3) := by decide +kernel
theorem o154_11 : zop 154 11 = some (.ifCond .ne 12, 3) := by decide +kernel
theorem o154_14 : zop 154 14 = some (.aload_n 0, 1) := by decide +kernel
theorem o154_15 : zop 154 15 = some (.bipush 45, 2) := by decide +kernel
theorem o154_17 : zop 154 17 = some (.invokevirtual 151, 3) := by decide +kernel
theorem o154_20 : zop 154 20 = some (.ifCond .eq 37, 3) := by decide +kernel
theorem o154_23 : zop 154 23 = some (.aload_n 0, 1) := by decide +kernel
theorem o154_24 : zop 154 24 = some (.bipush 43, 2) := by decide +kernel
theorem o154_26 : zop 154 26 = some (.invokevirtual 151, 3) := by decide +kernel
theorem o154_29 : zop 154 29 = some (.ifCond .eq 8, 3) := by decide +kernel
theorem o154_32 : zop 154 32 = some (.bipush (-20), 2) := by decide +kernel
theorem o154_34 : zop 154 34 = some (.goto 5, 3) := by decide +kernel
theorem o154_37 : zop 154 37 = some (.bipush (-21), 2) := by decide +kernel
theorem o154_39 : zop 154 39 = some (.istore_n 2, 1) := by decide +kernel
theorem o154_40 : zop 154 40 = some (.aload_n 0, 1) := by decide +kernel
theorem o154_41 : zop 154 41 = some (.invokevirtual 134, 3) := by decide +kernel
theorem o154_44 : zop 154 44 = some (.aload_n 0, 1) := by decide +kernel
theorem o154_45 : zop 154 45 = some (.iload_n 1, 1) := by decide +kernel
theorem o154_46 : zop 154 46 = some (.invokevirtual 155, 3) := by decide +kernel
theorem o154_49 : zop 154 49 = some (.aload_n 0, 1) := by decide +kernel
theorem o154_50 : zop 154 50 = some (.iload_n 2, 1) := by decide +kernel
theorem o154_51 : zop 154 51 = some (.invokevirtual 157, 3) := by decide +kernel
theorem o154_54 : zop 154 54 = some (.goto (-49), 3) := by decide +kernel
theorem o154_57 : zop 154 57 = some (.return_, 1) := by decide +kernel
theorem o155_0 : zop 155 0 = some (.aload_n 0, 1) := by decide +kernel
theorem o155_1 : zop 155 1 = some (.iload_n 1, 1) := by decide +kernel
theorem o155_2 : zop 155 2 = some (.invokevirtual 156, 3) := by decide +kernel
theorem o155_5 : zop 155 5 = some (.aload_n 0, 1) := by decide +kernel
theorem o155_6 : zop 155 6 = some (.bipush 42, 2) := by decide +kernel
theorem o155_8 : zop 155 8 = some (.invokevirtual 151, 3) := by decide +kernel
theorem o155_11 : zop 155 11 = some (.ifCond .ne 12, 3) := by decide +kernel
theorem o155_14 : zop 155 14 = some (.aload_n 0, 1) := by decide +kernel
theorem o155_15 : zop 155 15 = some (.bipush 47, 2) := by decide +kernel
theorem o155_17 : zop 155 17 = some (.invokevirtual 151, 3) := by decide +kernel
theorem o155_20 : zop 155 20 = some (.ifCond .eq 37, 3) := by decide +kernel
theorem o155_23 : zop 155 23 = some (.aload_n 0, 1) := by decide +kernel
theorem o155_24 : zop 155 24 = some (.bipush 42, 2) := by decide +kernel
theorem o155_26 : zop 155 26 = some (.invokevirtual 151, 3) := by decide +kernel
theorem o155_29 : zop 155 29 = some (.ifCond .eq 8, 3) := by decide +kernel
theorem o155_32 : zop 155 32 = some (.bipush (-22), 2) := by decide +kernel
theorem o155_34 : zop 155 34 = some (.goto 5, 3) := by decide +kernel
theorem o155_37 : zop 155 37 = some (.bipush (-23), 2) := by decide +kernel
theorem o155_39 : zop 155 39 = some (.istore_n 2, 1) := by decide +kernel
theorem o155_40 : zop 155 40 = some (.aload_n 0, 1) := by decide +kernel
theorem o155_41 : zop 155 41 = some (.invokevirtual 134, 3) := by decide +kernel
theorem o155_44 : zop 155 44 = some (.aload_n 0, 1) := by decide +kernel
theorem o155_45 : zop 155 45 = some (.iload_n 1, 1) := by decide +kernel
theorem o155_46 : zop 155 46 = some (.invokevirtual 156, 3) := by decide +kernel
theorem o155_49 : zop 155 49 = some (.aload_n 0, 1) := by decide +kernel
theorem o155_50 : zop 155 50 = some (.iload_n 2, 1) := by decide +kernel
theorem o155_51 : zop 155 51 = some (.invokevirtual 157, 3) := by decide +kernel
theorem o155_54 : zop 155 54 = some (.goto (-49), 3) := by decide +kernel
theorem o155_57 : zop 155 57 = some (.return_, 1) := by decide +kernel
theorem o156_0 : zop 156 0 = some (.aload_n 0, 1) := by decide +kernel
theorem o156_1 : zop 156 1 = some (.getfield 1021, 3) := by decide +kernel
theorem o156_4 : zop 156 4 = some (.ifCond .eq 4, 3) := by decide +kernel
theorem o156_7 : zop 156 7 = some (.return_, 1) := by decide +kernel
theorem o156_8 : zop 156 8 = some (.aload_n 0, 1) := by decide +kernel
theorem o156_9 : zop 156 9 = some (.getfield 1017, 3) := by decide +kernel
theorem o156_12 : zop 156 12 = some (.iconst 2, 1) := by decide +kernel
theorem o156_13 : zop 156 13 = some (.if_icmp .ne 16, 3) := by decide +kernel
theorem o156_16 : zop 156 16 = some (.aload_n 0, 1) := by decide +kernel
theorem o156_17 : zop 156 17 = some (.aload_n 0, 1) := by decide +kernel
theorem o156_18 : zop 156 18 = some (.iconst 0, 1) := by decide +kernel
theorem o156_19 : zop 156 19 = some (.sipush 9999, 3) := by decide +kernel
theorem o156_22 : zop 156 22 = some (.invokevirtual 144, 3) := by decide +kernel
theorem o156_25 : zop 156 25 = some (.invokevirtual 157, 3) := by decide +kernel
theorem o156_28 : zop 156 28 = some (.return_, 1) := by decide +kernel
theorem o156_29 : zop 156 29 = some (.aload_n 0, 1) := by decide +kernel
theorem o156_30 : zop 156 30 = some (.getfield 1017, 3) := by decide +kernel
theorem o156_33 : zop 156 33 = some (.iconst 1, 1) := by decide +kernel
theorem o156_34 : zop 156 34 = some (.if_icmp .ne 41, 3) := by decide +kernel
theorem o156_37 : zop 156 37 = some (.aload_n 0, 1) := by decide +kernel
theorem o156_38 : zop 156 38 = some (.aload_n 0, 1) := by decide +kernel
theorem o156_39 : zop 156 39 = some (.getfield 1001, 3) := by decide +kernel
theorem o156_42 : zop 156 42 = some (.invokevirtual 140, 3) := by decide +kernel
theorem o156_45 : zop 156 45 = some (.istore_n 2, 1) := by decide +kernel
theorem o156_46 : zop 156 46 = some (.iload_n 2, 1) := by decide +kernel
theorem o156_47 : zop 156 47 = some (.iconst (-1), 1) := by decide +kernel
theorem o156_48 : zop 156 48 = some (.if_icmp .ne 8, 3) := by decide +kernel
theorem o156_51 : zop 156 51 = some (.aload_n 0, 1) := by decide +kernel
theorem o156_52 : zop 156 52 = some (.iconst 3, 1) := by decide +kernel
theorem o156_53 : zop 156 53 = some (.invokevirtual 142, 3) := by decide +kernel
theorem o156_56 : zop 156 56 = some (.aload_n 0, 1) := by decide +kernel
theorem o156_57 : zop 156 57 = some (.iconst (-1), 1) := by decide +kernel
theorem o156_58 : zop 156 58 = some (.iload_n 2, 1) := by decide +kernel
theorem o156_59 : zop 156 59 = some (.isub, 1) := by decide +kernel
theorem o156_60 : zop 156 60 = some (.invokevirtual 157, 3) := by decide +kernel
theorem o156_63 : zop 156 63 = some (.aload_n 0, 1) := by decide +kernel
theorem o156_64 : zop 156 64 = some (.getfield 1021, 3) := by decide +kernel
theorem o156_67 : zop 156 67 = some (.ifCond .ne 7, 3) := by decide +kernel
theorem o156_70 : zop 156 70 = some (.aload_n 0, 1) := by decide +kernel
theorem o156_71 : zop 156 71 = some (.invokevirtual 134, 3) := by decide +kernel
theorem o156_74 : zop 156 74 = some (.return_, 1) := by decide +kernel
theorem o156_75 : zop 156 75 = some (.aload_n 0, 1) := by decide +kernel
theorem o156_76 : zop 156 76 = some (.bipush 40, 2) := by decide +kernel
theorem o156_78 : zop 156 78 = some (.invokevirtual 158, 3) := by decide +kernel
theorem o156_81 : zop 156 81 = some (.aload_n 0, 1) := by decide +kernel
theorem o156_82 : zop 156 82 = some (.iload_n 1, 1) := by decide +kernel
theorem o156_83 : zop 156 83 = some (.iconst 1, 1) := by decide +kernel
theorem o156_84 : zop 156 84 = some (.iadd, 1) := by decide +kernel
theorem o156_85 : zop 156 85 = some (.invokevirtual 150, 3) := by decide +kernel
theorem o156_88 : zop 156 88 = some (.aload_n 0, 1) := by decide +kernel
theorem o156_89 : zop 156 89 = some (.bipush 41, 2) := by decide +kernel
theorem o156_91 : zop 156 91 = some (.invokevirtual 158, 3) := by decide +kernel
theorem o156_94 : zop 156 94 = some (.return_, 1) := by decide +kernel
theorem o157_0 : zop 157 0 = some (.aload_n 0, 1) := by decide +kernel
theorem o157_1 : zop 157 1 = some (.getfield 1021, 3) := by decide +kernel
theorem o157_4 : zop 157 4 = some (.ifCond .eq 4, 3) := by decide +kernel
theorem o157_7 : zop 157 7 = some (.return_, 1) := by decide +kernel
theorem o157_8 : zop 157 8 = some (.aload_n 0, 1) := by decide +kernel
theorem o157_9 : zop 157 9 = some (.getfield 1011, 3) := by decide +kernel
theorem o157_12 : zop 157 12 = some (.sipush 600, 3) := by decide +kernel
theorem o157_15 : zop 157 15 = some (.aload_n 0, 1) := by decide +kernel
theorem o157_16 : zop 157 16 = some (.getfield 1003, 3) := by decide +kernel
theorem o157_19 : zop 157 19 = some (.bipush 7, 2) := by decide +kernel
theorem o157_21 : zop 157 21 = some (.iaload, 1) := by decide +kernel
theorem o157_22 : zop 157 22 = some (.iadd, 1) := by decide +kernel
theorem o157_23 : zop 157 23 = some (.iload_n 1, 1) := by decide +kernel
theorem o157_24 : zop 157 24 = some (.iastore, 1) := by decide +kernel
theorem o157_25 : zop 157 25 = some (.aload_n 0, 1) := by decide +kernel
theorem o157_26 : zop 157 26 = some (.getfield 1003, 3) := by decide +kernel
theorem o157_29 : zop 157 29 = some (.bipush 7, 2) := by decide +kernel
theorem o157_31 : zop 157 31 = some (.dup2, 1) := by decide +kernel
theorem o157_32 : zop 157 32 = some (.iaload, 1) := by decide +kernel
theorem o157_33 : zop 157 33 = some (.iconst 1, 1) := by decide +kernel
theorem o157_34 : zop 157 34 = some (.iadd, 1) := by decide +kernel
theorem o157_35 : zop 157 35 = some (.iastore, 1) := by decide +kernel
theorem o157_36 : zop 157 36 = some (.return_, 1) := by decide +kernel
theorem o158_0 : zop 158 0 = some (.aload_n 0, 1) := by decide +kernel
theorem o158_1 : zop 158 1 = some (.getfield 1021, 3) := by decide +kernel
theorem o158_4 : zop 158 4 = some (.ifCond .ne 16, 3) := by decide +kernel
theorem o158_7 : zop 158 7 = some (.aload_n 0, 1) := by decide +kernel
theorem o158_8 : zop 158 8 = some (.iload_n 1, 1) := by decide +kernel
theorem o158_9 : zop 158 9 = some (.invokevirtual 151, 3) := by decide +kernel
theorem o158_12 : zop 158 12 = some (.ifCond .ne 8, 3) := by decide +kernel
theorem o158_15 : zop 158 15 = some (.aload_n 0, 1) := by decide +kernel
theorem o158_16 : zop 158 16 = some (.iconst 1, 1) := by decide +kernel
theorem o158_17 : zop 158 17 = some (.invokevirtual 142, 3) := by decide +kernel
theorem o158_20 : zop 158 20 = some (.aload_n 0, 1) := by decide +kernel
theorem o158_21 : zop 158 21 = some (.getfield 1021, 3) := by decide +kernel
theorem o158_24 : zop 158 24 = some (.ifCond .ne 7, 3) := by decide +kernel
theorem o158_27 : zop 158 27 = some (.aload_n 0, 1) := by decide +kernel
theorem o158_28 : zop 158 28 = some (.invokevirtual 134, 3) := by decide +kernel
theorem o158_31 : zop 158 31 = some (.return_, 1) := by decide +kernel
theorem o159_0 : zop 159 0 = some (.aload_n 0, 1) := by decide +kernel
theorem o159_1 : zop 159 1 = some (.getfield 1003, 3) := by decide +kernel
theorem o159_4 : zop 159 4 = some (.invokestatic 160, 3) := by decide +kernel
theorem o159_7 : zop 159 7 = some (.aload_n 0, 1) := by decide +kernel
theorem o159_8 : zop 159 8 = some (.getfield 1004, 3) := by decide +kernel
theorem o159_11 : zop 159 11 = some (.invokestatic 160, 3) := by decide +kernel
theorem o159_14 : zop 159 14 = some (.aload_n 0, 1) := by decide +kernel
theorem o159_15 : zop 159 15 = some (.getfield 1005, 3) := by decide +kernel
theorem o159_18 : zop 159 18 = some (.invokestatic 160, 3) := by decide +kernel
theorem o159_21 : zop 159 21 = some (.aload_n 0, 1) := by decide +kernel
theorem o159_22 : zop 159 22 = some (.getfield 1006, 3) := by decide +kernel
theorem o159_25 : zop 159 25 = some (.invokestatic 160, 3) := by decide +kernel
theorem o159_28 : zop 159 28 = some (.aload_n 0, 1) := by decide +kernel
theorem o159_29 : zop 159 29 = some (.getfield 1007, 3) := by decide +kernel
theorem o159_32 : zop 159 32 = some (.invokestatic 160, 3) := by decide +kernel
theorem o159_35 : zop 159 35 = some (.aload_n 0, 1) := by decide +kernel
theorem o159_36 : zop 159 36 = some (.getfield 1008, 3) := by decide +kernel
theorem o159_39 : zop 159 39 = some (.invokestatic 160, 3) := by decide +kernel
theorem o159_42 : zop 159 42 = some (.aload_n 0, 1) := by decide +kernel
theorem o159_43 : zop 159 43 = some (.getfield 1009, 3) := by decide +kernel
theorem o159_46 : zop 159 46 = some (.invokestatic 160, 3) := by decide +kernel
theorem o159_49 : zop 159 49 = some (.aload_n 0, 1) := by decide +kernel
theorem o159_50 : zop 159 50 = some (.getfield 1010, 3) := by decide +kernel
theorem o159_53 : zop 159 53 = some (.invokestatic 160, 3) := by decide +kernel
theorem o159_56 : zop 159 56 = some (.aload_n 0, 1) := by decide +kernel
theorem o159_57 : zop 159 57 = some (.getfield 1011, 3) := by decide +kernel
theorem o159_60 : zop 159 60 = some (.invokestatic 160, 3) := by decide +kernel
theorem o159_63 : zop 159 63 = some (.aload_n 0, 1) := by decide +kernel
theorem o159_64 : zop 159 64 = some (.iconst 0, 1) := by decide +kernel
theorem o159_65 : zop 159 65 = some (.putfield 1030, 3) := by decide +kernel
theorem o159_68 : zop 159 68 = some (.aload_n 0, 1) := by decide +kernel
theorem o159_69 : zop 159 69 = some (.iconst 0, 1) := by decide +kernel
theorem o159_70 : zop 159 70 = some (.putfield 1031, 3) := by decide +kernel
theorem o159_73 : zop 159 73 = some (.aload_n 0, 1) := by decide +kernel
theorem o159_74 : zop 159 74 = some (.iconst 0, 1) := by decide +kernel
theorem o159_75 : zop 159 75 = some (.putfield 1032, 3) := by decide +kernel
theorem o159_78 : zop 159 78 = some (.aload_n 0, 1) := by decide +kernel
theorem o159_79 : zop 159 79 = some (.iconst 0, 1) := by decide +kernel
theorem o159_80 : zop 159 80 = some (.putfield 1033, 3) := by decide +kernel
theorem o159_83 : zop 159 83 = some (.aload_n 0, 1) := by decide +kernel
theorem o159_84 : zop 159 84 = some (.iconst (-1), 1) := by decide +kernel
theorem o159_85 : zop 159 85 = some (.putfield 1044, 3) := by decide +kernel
theorem o159_88 : zop 159 88 = some (.aload_n 0, 1) := by decide +kernel
theorem o159_89 : zop 159 89 = some (.iconst 0, 1) := by decide +kernel
theorem o159_90 : zop 159 90 = some (.putfield 1049, 3) := by decide +kernel
theorem o159_93 : zop 159 93 = some (.iconst 0, 1) := by decide +kernel
theorem o159_94 : zop 159 94 = some (.istore_n 1, 1) := by decide +kernel
theorem o159_95 : zop 159 95 = some (.iload_n 1, 1) := by decide +kernel
theorem o159_96 : zop 159 96 = some (.aload_n 0, 1) := by decide +kernel
theorem o159_97 : zop 159 97 = some (.getfield 1003, 3) := by decide +kernel
theorem o159_100 : zop 159 100 = some (.iconst 1, 1) := by decide +kernel
theorem o159_101 : zop 159 101 = some (.iaload, 1) := by decide +kernel
theorem o159_102 : zop 159 102 = some (.if_icmp .ge 103, 3) := by decide +kernel
theorem o159_105 : zop 159 105 = some (.aload_n 0, 1) := by decide +kernel
theorem o159_106 : zop 159 106 = some (.getfield 1024, 3) := by decide +kernel
theorem o159_109 : zop 159 109 = some (.iload_n 1, 1) := by decide +kernel
theorem o159_110 : zop 159 110 = some (.aload_n 0, 1) := by decide +kernel
theorem o159_111 : zop 159 111 = some (.getfield 1006, 3) := by decide +kernel
theorem o159_114 : zop 159 114 = some (.iload_n 1, 1) := by decide +kernel
theorem o159_115 : zop 159 115 = some (.iaload, 1) := by decide +kernel
theorem o159_116 : zop 159 116 = some (.iastore, 1) := by decide +kernel
theorem o159_117 : zop 159 117 = some (.aload_n 0, 1) := by decide +kernel
theorem o159_118 : zop 159 118 = some (.getfield 1024, 3) := by decide +kernel
theorem o159_121 : zop 159 121 = some (.bipush 80, 2) := by decide +kernel
theorem o159_123 : zop 159 123 = some (.iload_n 1, 1) := by decide +kernel
theorem o159_124 : zop 159 124 = some (.iadd, 1) := by decide +kernel
theorem o159_125 : zop 159 125 = some (.iconst (-1), 1) := by decide +kernel
theorem o159_126 : zop 159 126 = some (.iastore, 1) := by decide +kernel
theorem o159_127 : zop 159 127 = some (.aload_n 0, 1) := by decide +kernel
theorem o159_128 : zop 159 128 = some (.getfield 1024, 3) := by decide +kernel
theorem o159_131 : zop 159 131 = some (.bipush 120, 2) := by decide +kernel
theorem o159_133 : zop 159 133 = some (.iload_n 1, 1) := by decide +kernel
theorem o159_134 : zop 159 134 = some (.iadd, 1) := by decide +kernel
theorem o159_135 : zop 159 135 = some (.iconst 1, 1) := by decide +kernel
theorem o159_136 : zop 159 136 = some (.aload_n 0, 1) := by decide +kernel
theorem o159_137 : zop 159 137 = some (.getfield 1006, 3) := by decide +kernel
theorem o159_140 : zop 159 140 = some (.iload_n 1, 1) := by decide +kernel
theorem o159_141 : zop 159 141 = some (.iaload, 1) := by decide +kernel
theorem o159_142 : zop 159 142 = some (.ishl, 1) := by decide +kernel
theorem o159_143 : zop 159 143 = some (.iastore, 1) := by decide +kernel
theorem o159_144 : zop 159 144 = some (.aload_n 0, 1) := by decide +kernel
theorem o159_145 : zop 159 145 = some (.getfield 1024, 3) := by decide +kernel
theorem o159_148 : zop 159 148 = some (.bipush 40, 2) := by decide +kernel
theorem o159_150 : zop 159 150 = some (.iload_n 1, 1) := by decide +kernel
theorem o159_151 : zop 159 151 = some (.iadd, 1) := by decide +kernel
theorem o159_152 : zop 159 152 = some (.iconst 0, 1) := by decide +kernel
theorem o159_153 : zop 159 153 = some (.iastore, 1) := by decide +kernel
theorem o159_154 : zop 159 154 = some (.iconst 0, 1) := by decide +kernel
theorem o159_155 : zop 159 155 = some (.istore_n 2, 1) := by decide +kernel
theorem o159_156 : zop 159 156 = some (.iload_n 2, 1) := by decide +kernel
theorem o159_157 : zop 159 157 = some (.iload_n 1, 1) := by decide +kernel
theorem o159_158 : zop 159 158 = some (.if_icmp .ge 41, 3) := by decide +kernel
theorem o159_161 : zop 159 161 = some (.aload_n 0, 1) := by decide +kernel
theorem o159_162 : zop 159 162 = some (.getfield 1024, 3) := by decide +kernel
theorem o159_165 : zop 159 165 = some (.bipush 40, 2) := by decide +kernel
theorem o159_167 : zop 159 167 = some (.iload_n 1, 1) := by decide +kernel
theorem o159_168 : zop 159 168 = some (.iadd, 1) := by decide +kernel
theorem o159_169 : zop 159 169 = some (.dup2, 1) := by decide +kernel
theorem o159_170 : zop 159 170 = some (.iaload, 1) := by decide +kernel
theorem o159_171 : zop 159 171 = some (.aload_n 0, 1) := by decide +kernel
theorem o159_172 : zop 159 172 = some (.getfield 1006, 3) := by decide +kernel
theorem o159_175 : zop 159 175 = some (.iload_n 2, 1) := by decide +kernel
theorem o159_176 : zop 159 176 = some (.iaload, 1) := by decide +kernel
theorem o159_177 : zop 159 177 = some (.aload_n 0, 1) := by decide +kernel
theorem o159_178 : zop 159 178 = some (.getfield 1006, 3) := by decide +kernel
theorem o159_181 : zop 159 181 = some (.iload_n 1, 1) := by decide +kernel
theorem o159_182 : zop 159 182 = some (.iaload, 1) := by decide +kernel
theorem o159_183 : zop 159 183 = some (.if_icmp .ne 7, 3) := by decide +kernel
theorem o159_186 : zop 159 186 = some (.iconst 1, 1) := by decide +kernel
theorem o159_187 : zop 159 187 = some (.goto 4, 3) := by decide +kernel
theorem o159_190 : zop 159 190 = some (.iconst 0, 1) := by decide +kernel
theorem o159_191 : zop 159 191 = some (.iadd, 1) := by decide +kernel
theorem o159_192 : zop 159 192 = some (.iastore, 1) := by decide +kernel
theorem o159_193 : zop 159 193 = some (.iinc 2 1, 3) := by decide +kernel
theorem o159_196 : zop 159 196 = some (.goto (-40), 3) := by decide +kernel
theorem o159_199 : zop 159 199 = some (.iinc 1 1, 3) := by decide +kernel
theorem o159_202 : zop 159 202 = some (.goto (-107), 3) := by decide +kernel
theorem o159_205 : zop 159 205 = some (.iconst 0, 1) := by decide +kernel
theorem o159_206 : zop 159 206 = some (.istore_n 1, 1) := by decide +kernel
theorem o159_207 : zop 159 207 = some (.iload_n 1, 1) := by decide +kernel
theorem o159_208 : zop 159 208 = some (.bipush 6, 2) := by decide +kernel
theorem o159_210 : zop 159 210 = some (.if_icmp .ge 21, 3) := by decide +kernel
theorem o159_213 : zop 159 213 = some (.aload_n 0, 1) := by decide +kernel
theorem o159_214 : zop 159 214 = some (.getfield 1024, 3) := by decide +kernel
theorem o159_217 : zop 159 217 = some (.sipush 160, 3) := by decide +kernel
theorem o159_220 : zop 159 220 = some (.iload_n 1, 1) := by decide +kernel
theorem o159_221 : zop 159 221 = some (.iadd, 1) := by decide +kernel
theorem o159_222 : zop 159 222 = some (.bipush 10, 2) := by decide +kernel
theorem o159_224 : zop 159 224 = some (.iastore, 1) := by decide +kernel
theorem o159_225 : zop 159 225 = some (.iinc 1 1, 3) := by decide +kernel
theorem o159_228 : zop 159 228 = some (.goto (-21), 3) := by decide +kernel
theorem o159_231 : zop 159 231 = some (.iconst 0, 1) := by decide +kernel
theorem o159_232 : zop 159 232 = some (.istore_n 1, 1) := by decide +kernel
theorem o159_233 : zop 159 233 = some (.iload_n 1, 1) := by decide +kernel
theorem o159_234 : zop 159 234 = some (.aload_n 0, 1) := by decide +kernel
theorem o159_235 : zop 159 235 = some (.getfield 1003, 3) := by decide +kernel
theorem o159_238 : zop 159 238 = some (.iconst 2, 1) := by decide +kernel
theorem o159_239 : zop 159 239 = some (.iaload, 1) := by decide +kernel
theorem o159_240 : zop 159 240 = some (.if_icmp .ge 25, 3) := by decide +kernel
theorem o159_243 : zop 159 243 = some (.aload_n 0, 1) := by decide +kernel
theorem o159_244 : zop 159 244 = some (.getfield 1024, 3) := by decide +kernel
theorem o159_247 : zop 159 247 = some (.sipush 166, 3) := by decide +kernel
theorem o159_250 : zop 159 250 = some (.iload_n 1, 1) := by decide +kernel
theorem o159_251 : zop 159 251 = some (.iadd, 1) := by decide +kernel
theorem o159_252 : zop 159 252 = some (.aload_n 0, 1) := by decide +kernel
theorem o159_253 : zop 159 253 = some (.getfield 1010, 3) := by decide +kernel
theorem o159_256 : zop 159 256 = some (.iload_n 1, 1) := by decide +kernel
theorem o159_257 : zop 159 257 = some (.iaload, 1) := by decide +kernel
theorem o159_258 : zop 159 258 = some (.iastore, 1) := by decide +kernel
theorem o159_259 : zop 159 259 = some (.iinc 1 1, 3) := by decide +kernel
theorem o159_262 : zop 159 262 = some (.goto (-29), 3) := by decide +kernel
theorem o159_265 : zop 159 265 = some (.return_, 1) := by decide +kernel
theorem o160_0 : zop 160 0 = some (.iconst 0, 1) := by decide +kernel
theorem o160_1 : zop 160 1 = some (.istore_n 1, 1) := by decide +kernel
theorem o160_2 : zop 160 2 = some (.iload_n 1, 1) := by decide +kernel
theorem o160_3 : zop 160 3 = some (.aload_n 0, 1) := by decide +kernel
theorem o160_4 : zop 160 4 = some (.arraylength, 1) := by decide +kernel
theorem o160_5 : zop 160 5 = some (.iconst 2, 1) := by decide +kernel
theorem o160_6 : zop 160 6 = some (.idiv, 1) := by decide +kernel
theorem o160_7 : zop 160 7 = some (.if_icmp .ge 20, 3) := by decide +kernel
theorem o160_10 : zop 160 10 = some (.aload_n 0, 1) := by decide +kernel
theorem o160_11 : zop 160 11 = some (.iload_n 1, 1) := by decide +kernel
theorem o160_12 : zop 160 12 = some (.aload_n 0, 1) := by decide +kernel
theorem o160_13 : zop 160 13 = some (.aload_n 0, 1) := by decide +kernel
theorem o160_14 : zop 160 14 = some (.arraylength, 1) := by decide +kernel
theorem o160_15 : zop 160 15 = some (.iconst 2, 1) := by decide +kernel
theorem o160_16 : zop 160 16 = some (.idiv, 1) := by decide +kernel
theorem o160_17 : zop 160 17 = some (.iload_n 1, 1) := by decide +kernel
theorem o160_18 : zop 160 18 = some (.iadd, 1) := by decide +kernel
theorem o160_19 : zop 160 19 = some (.iaload, 1) := by decide +kernel
theorem o160_20 : zop 160 20 = some (.iastore, 1) := by decide +kernel
theorem o160_21 : zop 160 21 = some (.iinc 1 1, 3) := by decide +kernel
theorem o160_24 : zop 160 24 = some (.goto (-22), 3) := by decide +kernel
theorem o160_27 : zop 160 27 = some (.return_, 1) := by decide +kernel
theorem o161_0 : zop 161 0 = some (.aload_n 0, 1) := by decide +kernel
theorem o161_1 : zop 161 1 = some (.iconst 0, 1) := by decide +kernel
theorem o161_2 : zop 161 2 = some (.putfield 1002, 3) := by decide +kernel
theorem o161_5 : zop 161 5 = some (.aload_n 0, 1) := by decide +kernel
theorem o161_6 : zop 161 6 = some (.getfield 1023, 3) := by decide +kernel
theorem o161_9 : zop 161 9 = some (.ireturn, 1) := by decide +kernel
theorem o162_0 : zop 162 0 = some (.aload_n 0, 1) := by decide +kernel
theorem o162_1 : zop 162 1 = some (.iconst 0, 1) := by decide +kernel
theorem o162_2 : zop 162 2 = some (.putfield 1002, 3) := by decide +kernel
theorem o162_5 : zop 162 5 = some (.iload_n 1, 1) := by decide +kernel
theorem o162_6 : zop 162 6 = some (.tableswitch 113 0 11 #[62, 62, 62, 69, 74, 79, 84, 93, 98, 103, 103, 103], 62) := by decide +kernel
theorem o162_68 : zop 162 68 = some (.aload_n 0, 1) := by decide +kernel
theorem o162_69 : zop 162 69 = some (.getfield 1003, 3) := by decide +kernel
theorem o162_72 : zop 162 72 = some (.iload_n 1, 1) := by decide +kernel
theorem o162_73 : zop 162 73 = some (.iaload, 1) := by decide +kernel
theorem o162_74 : zop 162 74 = some (.ireturn, 1) := by decide +kernel
theorem o162_75 : zop 162 75 = some (.aload_n 0, 1) := by decide +kernel
theorem o162_76 : zop 162 76 = some (.getfield 1030, 3) := by decide +kernel
theorem o162_79 : zop 162 79 = some (.ireturn, 1) := by decide +kernel
theorem o162_80 : zop 162 80 = some (.aload_n 0, 1) := by decide +kernel
theorem o162_81 : zop 162 81 = some (.getfield 1032, 3) := by decide +kernel
theorem o162_84 : zop 162 84 = some (.ireturn, 1) := by decide +kernel
theorem o162_85 : zop 162 85 = some (.aload_n 0, 1) := by decide +kernel
theorem o162_86 : zop 162 86 = some (.getfield 1033, 3) := by decide +kernel
theorem o162_89 : zop 162 89 = some (.ireturn, 1) := by decide +kernel
theorem o162_90 : zop 162 90 = some (.aload_n 0, 1) := by decide +kernel
theorem o162_91 : zop 162 91 = some (.aload_n 0, 1) := by decide +kernel
theorem o162_92 : zop 162 92 = some (.getfield 1024, 3) := by decide +kernel
theorem o162_95 : zop 162 95 = some (.invokevirtual 163, 3) := by decide +kernel
theorem o162_98 : zop 162 98 = some (.ireturn, 1) := by decide +kernel
theorem o162_99 : zop 162 99 = some (.aload_n 0, 1) := by decide +kernel
theorem o162_100 : zop 162 100 = some (.invokevirtual 166, 3) := by decide +kernel
theorem o162_103 : zop 162 103 = some (.ireturn, 1) := by decide +kernel
theorem o162_104 : zop 162 104 = some (.aload_n 0, 1) := by decide +kernel
theorem o162_105 : zop 162 105 = some (.getfield 1014, 3) := by decide +kernel
theorem o162_108 : zop 162 108 = some (.ireturn, 1) := by decide +kernel
theorem o162_109 : zop 162 109 = some (.aload_n 0, 1) := by decide +kernel
theorem o162_110 : zop 162 110 = some (.getfield 1012, 3) := by decide +kernel
theorem o162_113 : zop 162 113 = some (.iload_n 1, 1) := by decide +kernel
theorem o162_114 : zop 162 114 = some (.bipush 9, 2) := by decide +kernel
theorem o162_116 : zop 162 116 = some (.isub, 1) := by decide +kernel
theorem o162_117 : zop 162 117 = some (.iaload, 1) := by decide +kernel
theorem o162_118 : zop 162 118 = some (.ireturn, 1) := by decide +kernel
theorem o162_119 : zop 162 119 = some (.aload_n 0, 1) := by decide +kernel
theorem o162_120 : zop 162 120 = some (.iconst 1, 1) := by decide +kernel
theorem o162_121 : zop 162 121 = some (.invokevirtual 133, 3) := by decide +kernel
theorem o162_124 : zop 162 124 = some (.ireturn, 1) := by decide +kernel
theorem o163_0 : zop 163 0 = some (.iconst 0, 1) := by decide +kernel
theorem o163_1 : zop 163 1 = some (.istore_n 2, 1) := by decide +kernel
theorem o163_2 : zop 163 2 = some (.iconst 0, 1) := by decide +kernel
theorem o163_3 : zop 163 3 = some (.istore_n 3, 1) := by decide +kernel
theorem o163_4 : zop 163 4 = some (.iload_n 3, 1) := by decide +kernel
theorem o163_5 : zop 163 5 = some (.aload_n 0, 1) := by decide +kernel
theorem o163_6 : zop 163 6 = some (.getfield 1003, 3) := by decide +kernel
theorem o163_9 : zop 163 9 = some (.iconst 0, 1) := by decide +kernel
theorem o163_10 : zop 163 10 = some (.iaload, 1) := by decide +kernel
theorem o163_11 : zop 163 11 = some (.if_icmp .ge 18, 3) := by decide +kernel
theorem o163_14 : zop 163 14 = some (.iload_n 2, 1) := by decide +kernel
theorem o163_15 : zop 163 15 = some (.aload_n 0, 1) := by decide +kernel
theorem o163_16 : zop 163 16 = some (.aload_n 1, 1) := by decide +kernel
theorem o163_17 : zop 163 17 = some (.iload_n 3, 1) := by decide +kernel
theorem o163_18 : zop 163 18 = some (.invokevirtual 164, 3) := by decide +kernel
theorem o163_21 : zop 163 21 = some (.iadd, 1) := by decide +kernel
theorem o163_22 : zop 163 22 = some (.istore_n 2, 1) := by decide +kernel
theorem o163_23 : zop 163 23 = some (.iinc 3 1, 3) := by decide +kernel
theorem o163_26 : zop 163 26 = some (.goto (-22), 3) := by decide +kernel
theorem o163_29 : zop 163 29 = some (.iload_n 2, 1) := by decide +kernel
theorem o163_30 : zop 163 30 = some (.ireturn, 1) := by decide +kernel
theorem o164_0 : zop 164 0 = some (.iconst 0, 1) := by decide +kernel
theorem o164_1 : zop 164 1 = some (.aload_n 0, 1) := by decide +kernel
theorem o164_2 : zop 164 2 = some (.getfield 1004, 3) := by decide +kernel
theorem o164_5 : zop 164 5 = some (.iload_n 2, 1) := by decide +kernel
theorem o164_6 : zop 164 6 = some (.iaload, 1) := by decide +kernel
theorem o164_7 : zop 164 7 = some (.aload_n 0, 1) := by decide +kernel
theorem o164_8 : zop 164 8 = some (.aload_n 1, 1) := by decide +kernel
theorem o164_9 : zop 164 9 = some (.iload_n 2, 1) := by decide +kernel
theorem o164_10 : zop 164 10 = some (.invokevirtual 165, 3) := by decide +kernel
theorem o164_13 : zop 164 13 = some (.isub, 1) := by decide +kernel
theorem o164_14 : zop 164 14 = some (.invokestatic 1002, 3) := by decide +kernel
theorem o164_17 : zop 164 17 = some (.ireturn, 1) := by decide +kernel
theorem o165_0 : zop 165 0 = some (.iconst 0, 1) := by decide +kernel
theorem o165_1 : zop 165 1 = some (.istore_n 3, 1) := by decide +kernel
theorem o165_2 : zop 165 2 = some (.iconst 0, 1) := by decide +kernel
theorem o165_3 : zop 165 3 = some (.istore 4, 2) := by decide +kernel
theorem o165_5 : zop 165 5 = some (.iload 4, 2) := by decide +kernel
theorem o165_7 : zop 165 7 = some (.aload_n 0, 1) := by decide +kernel
theorem o165_8 : zop 165 8 = some (.getfield 1003, 3) := by decide +kernel
theorem o165_11 : zop 165 11 = some (.iconst 1, 1) := by decide +kernel
theorem o165_12 : zop 165 12 = some (.iaload, 1) := by decide +kernel
theorem o165_13 : zop 165 13 = some (.if_icmp .ge 25, 3) := by decide +kernel
theorem o165_16 : zop 165 16 = some (.iload_n 3, 1) := by decide +kernel
theorem o165_17 : zop 165 17 = some (.aload_n 1, 1) := by decide +kernel
theorem o165_18 : zop 165 18 = some (.iload 4, 2) := by decide +kernel
theorem o165_20 : zop 165 20 = some (.iaload, 1) := by decide +kernel
theorem o165_21 : zop 165 21 = some (.iload_n 2, 1) := by decide +kernel
theorem o165_22 : zop 165 22 = some (.if_icmp .ne 7, 3) := by decide +kernel
theorem o165_25 : zop 165 25 = some (.iconst 1, 1) := by decide +kernel
theorem o165_26 : zop 165 26 = some (.goto 4, 3) := by decide +kernel
theorem o165_29 : zop 165 29 = some (.iconst 0, 1) := by decide +kernel
theorem o165_30 : zop 165 30 = some (.iadd, 1) := by decide +kernel
theorem o165_31 : zop 165 31 = some (.istore_n 3, 1) := by decide +kernel
theorem o165_32 : zop 165 32 = some (.iinc 4 1, 3) := by decide +kernel
theorem o165_35 : zop 165 35 = some (.goto (-30), 3) := by decide +kernel
theorem o165_38 : zop 165 38 = some (.iload_n 3, 1) := by decide +kernel
theorem o165_39 : zop 165 39 = some (.ireturn, 1) := by decide +kernel
theorem o166_0 : zop 166 0 = some (.iconst 0, 1) := by decide +kernel
theorem o166_1 : zop 166 1 = some (.istore_n 1, 1) := by decide +kernel
theorem o166_2 : zop 166 2 = some (.iconst 0, 1) := by decide +kernel
theorem o166_3 : zop 166 3 = some (.istore_n 2, 1) := by decide +kernel
theorem o166_4 : zop 166 4 = some (.iload_n 2, 1) := by decide +kernel
theorem o166_5 : zop 166 5 = some (.aload_n 0, 1) := by decide +kernel
theorem o166_6 : zop 166 6 = some (.getfield 1030, 3) := by decide +kernel
theorem o166_9 : zop 166 9 = some (.if_icmp .ge 23, 3) := by decide +kernel
theorem o166_12 : zop 166 12 = some (.iload_n 1, 1) := by decide +kernel
theorem o166_13 : zop 166 13 = some (.aload_n 0, 1) := by decide +kernel
theorem o166_14 : zop 166 14 = some (.getfield 1034, 3) := by decide +kernel
theorem o166_17 : zop 166 17 = some (.bipush 6, 2) := by decide +kernel
theorem o166_19 : zop 166 19 = some (.iload_n 2, 1) := by decide +kernel
theorem o166_20 : zop 166 20 = some (.imul, 1) := by decide +kernel
theorem o166_21 : zop 166 21 = some (.iconst 5, 1) := by decide +kernel
theorem o166_22 : zop 166 22 = some (.iadd, 1) := by decide +kernel
theorem o166_23 : zop 166 23 = some (.iaload, 1) := by decide +kernel
theorem o166_24 : zop 166 24 = some (.iadd, 1) := by decide +kernel
theorem o166_25 : zop 166 25 = some (.istore_n 1, 1) := by decide +kernel
theorem o166_26 : zop 166 26 = some (.iinc 2 1, 3) := by decide +kernel
theorem o166_29 : zop 166 29 = some (.goto (-25), 3) := by decide +kernel
theorem o166_32 : zop 166 32 = some (.iload_n 1, 1) := by decide +kernel
theorem o166_33 : zop 166 33 = some (.ireturn, 1) := by decide +kernel
theorem o167_0 : zop 167 0 = some (.aload_n 0, 1) := by decide +kernel
theorem o167_1 : zop 167 1 = some (.iconst 0, 1) := by decide +kernel
theorem o167_2 : zop 167 2 = some (.putfield 1002, 3) := by decide +kernel
theorem o167_5 : zop 167 5 = some (.aload_n 0, 1) := by decide +kernel
theorem o167_6 : zop 167 6 = some (.iload_n 1, 1) := by decide +kernel
theorem o167_7 : zop 167 7 = some (.invokevirtual 168, 3) := by decide +kernel
theorem o167_10 : zop 167 10 = some (.ifCond .ne 9, 3) := by decide +kernel
theorem o167_13 : zop 167 13 = some (.aload_n 0, 1) := by decide +kernel
theorem o167_14 : zop 167 14 = some (.iconst 1, 1) := by decide +kernel
theorem o167_15 : zop 167 15 = some (.invokevirtual 133, 3) := by decide +kernel
theorem o167_18 : zop 167 18 = some (.ireturn, 1) := by decide +kernel
theorem o167_19 : zop 167 19 = some (.iload_n 2, 1) := by decide +kernel
theorem o167_20 : zop 167 20 = some (.tableswitch 96 0 5 #[40, 47, 54, 64, 74, 85], 40) := by decide +kernel
theorem o167_60 : zop 167 60 = some (.aload_n 0, 1) := by decide +kernel
theorem o167_61 : zop 167 61 = some (.getfield 1004, 3) := by decide +kernel
theorem o167_64 : zop 167 64 = some (.iload_n 1, 1) := by decide +kernel
theorem o167_65 : zop 167 65 = some (.iaload, 1) := by decide +kernel
theorem o167_66 : zop 167 66 = some (.ireturn, 1) := by decide +kernel
theorem o167_67 : zop 167 67 = some (.aload_n 0, 1) := by decide +kernel
theorem o167_68 : zop 167 68 = some (.getfield 1005, 3) := by decide +kernel
theorem o167_71 : zop 167 71 = some (.iload_n 1, 1) := by decide +kernel
theorem o167_72 : zop 167 72 = some (.iaload, 1) := by decide +kernel
theorem o167_73 : zop 167 73 = some (.ireturn, 1) := by decide +kernel
theorem o167_74 : zop 167 74 = some (.aload_n 0, 1) := by decide +kernel
theorem o167_75 : zop 167 75 = some (.aload_n 0, 1) := by decide +kernel
theorem o167_76 : zop 167 76 = some (.getfield 1024, 3) := by decide +kernel
theorem o167_79 : zop 167 79 = some (.iload_n 1, 1) := by decide +kernel
theorem o167_80 : zop 167 80 = some (.invokevirtual 165, 3) := by decide +kernel
theorem o167_83 : zop 167 83 = some (.ireturn, 1) := by decide +kernel
theorem o167_84 : zop 167 84 = some (.aload_n 0, 1) := by decide +kernel
theorem o167_85 : zop 167 85 = some (.aload_n 0, 1) := by decide +kernel
theorem o167_86 : zop 167 86 = some (.getfield 1024, 3) := by decide +kernel
theorem o167_89 : zop 167 89 = some (.iload_n 1, 1) := by decide +kernel
theorem o167_90 : zop 167 90 = some (.invokevirtual 164, 3) := by decide +kernel
theorem o167_93 : zop 167 93 = some (.ireturn, 1) := by decide +kernel
theorem o167_94 : zop 167 94 = some (.aload_n 0, 1) := by decide +kernel
theorem o167_95 : zop 167 95 = some (.getfield 1024, 3) := by decide +kernel
theorem o167_98 : zop 167 98 = some (.sipush 160, 3) := by decide +kernel
theorem o167_101 : zop 167 101 = some (.iload_n 1, 1) := by decide +kernel
theorem o167_102 : zop 167 102 = some (.iadd, 1) := by decide +kernel
theorem o167_103 : zop 167 103 = some (.iaload, 1) := by decide +kernel
theorem o167_104 : zop 167 104 = some (.ireturn, 1) := by decide +kernel
theorem o167_105 : zop 167 105 = some (.aload_n 0, 1) := by decide +kernel
theorem o167_106 : zop 167 106 = some (.aload_n 0, 1) := by decide +kernel
theorem o167_107 : zop 167 107 = some (.getfield 1024, 3) := by decide +kernel
theorem o167_110 : zop 167 110 = some (.iload_n 1, 1) := by decide +kernel
theorem o167_111 : zop 167 111 = some (.iload_n 1, 1) := by decide +kernel
theorem o167_112 : zop 167 112 = some (.invokevirtual 170, 3) := by decide +kernel
theorem o167_115 : zop 167 115 = some (.ireturn, 1) := by decide +kernel
theorem o167_116 : zop 167 116 = some (.aload_n 0, 1) := by decide +kernel
theorem o167_117 : zop 167 117 = some (.iconst 1, 1) := by decide +kernel
theorem o167_118 : zop 167 118 = some (.invokevirtual 133, 3) := by decide +kernel
theorem o167_121 : zop 167 121 = some (.ireturn, 1) := by decide +kernel
theorem o168_0 : zop 168 0 = some (.iload_n 1, 1) := by decide +kernel
theorem o168_1 : zop 168 1 = some (.iconst 0, 1) := by decide +kernel
theorem o168_2 : zop 168 2 = some (.aload_n 0, 1) := by decide +kernel
theorem o168_3 : zop 168 3 = some (.getfield 1003, 3) := by decide +kernel
theorem o168_6 : zop 168 6 = some (.iconst 0, 1) := by decide +kernel
theorem o168_7 : zop 168 7 = some (.iaload, 1) := by decide +kernel
theorem o168_8 : zop 168 8 = some (.iconst 1, 1) := by decide +kernel
theorem o168_9 : zop 168 9 = some (.isub, 1) := by decide +kernel
theorem o168_10 : zop 168 10 = some (.invokestatic 169, 3) := by decide +kernel
theorem o168_13 : zop 168 13 = some (.ireturn, 1) := by decide +kernel
theorem o169_0 : zop 169 0 = some (.iload_n 0, 1) := by decide +kernel
theorem o169_1 : zop 169 1 = some (.iload_n 1, 1) := by decide +kernel
theorem o169_2 : zop 169 2 = some (.if_icmp .lt 12, 3) := by decide +kernel
theorem o169_5 : zop 169 5 = some (.iload_n 0, 1) := by decide +kernel
theorem o169_6 : zop 169 6 = some (.iload_n 2, 1) := by decide +kernel
theorem o169_7 : zop 169 7 = some (.if_icmp .gt 7, 3) := by decide +kernel
theorem o169_10 : zop 169 10 = some (.iconst 1, 1) := by decide +kernel
theorem o169_11 : zop 169 11 = some (.goto 4, 3) := by decide +kernel
theorem o169_14 : zop 169 14 = some (.iconst 0, 1) := by decide +kernel
theorem o169_15 : zop 169 15 = some (.ireturn, 1) := by decide +kernel
theorem o170_0 : zop 170 0 = some (.iconst 0, 1) := by decide +kernel
theorem o170_1 : zop 170 1 = some (.istore 4, 2) := by decide +kernel
theorem o170_3 : zop 170 3 = some (.iconst 0, 1) := by decide +kernel
theorem o170_4 : zop 170 4 = some (.istore 5, 2) := by decide +kernel
theorem o170_6 : zop 170 6 = some (.iload 5, 2) := by decide +kernel
theorem o170_8 : zop 170 8 = some (.aload_n 0, 1) := by decide +kernel
theorem o170_9 : zop 170 9 = some (.getfield 1003, 3) := by decide +kernel
theorem o170_12 : zop 170 12 = some (.iconst 1, 1) := by decide +kernel
theorem o170_13 : zop 170 13 = some (.iaload, 1) := by decide +kernel
theorem o170_14 : zop 170 14 = some (.if_icmp .ge 38, 3) := by decide +kernel
theorem o170_17 : zop 170 17 = some (.iload 4, 2) := by decide +kernel
theorem o170_19 : zop 170 19 = some (.aload_n 1, 1) := by decide +kernel
theorem o170_20 : zop 170 20 = some (.iload 5, 2) := by decide +kernel
theorem o170_22 : zop 170 22 = some (.iaload, 1) := by decide +kernel
theorem o170_23 : zop 170 23 = some (.iload_n 2, 1) := by decide +kernel
theorem o170_24 : zop 170 24 = some (.if_icmp .ne 18, 3) := by decide +kernel
theorem o170_27 : zop 170 27 = some (.aload_n 0, 1) := by decide +kernel
theorem o170_28 : zop 170 28 = some (.getfield 1006, 3) := by decide +kernel
theorem o170_31 : zop 170 31 = some (.iload 5, 2) := by decide +kernel
theorem o170_33 : zop 170 33 = some (.iaload, 1) := by decide +kernel
theorem o170_34 : zop 170 34 = some (.iload_n 3, 1) := by decide +kernel
theorem o170_35 : zop 170 35 = some (.if_icmp .ne 7, 3) := by decide +kernel
theorem o170_38 : zop 170 38 = some (.iconst 1, 1) := by decide +kernel
theorem o170_39 : zop 170 39 = some (.goto 4, 3) := by decide +kernel
theorem o170_42 : zop 170 42 = some (.iconst 0, 1) := by decide +kernel
theorem o170_43 : zop 170 43 = some (.iadd, 1) := by decide +kernel
theorem o170_44 : zop 170 44 = some (.istore 4, 2) := by decide +kernel
theorem o170_46 : zop 170 46 = some (.iinc 5 1, 3) := by decide +kernel
theorem o170_49 : zop 170 49 = some (.goto (-43), 3) := by decide +kernel
theorem o170_52 : zop 170 52 = some (.iload 4, 2) := by decide +kernel
theorem o170_54 : zop 170 54 = some (.ireturn, 1) := by decide +kernel
theorem o171_0 : zop 171 0 = some (.aload_n 0, 1) := by decide +kernel
theorem o171_1 : zop 171 1 = some (.iconst 0, 1) := by decide +kernel
theorem o171_2 : zop 171 2 = some (.putfield 1002, 3) := by decide +kernel
theorem o171_5 : zop 171 5 = some (.aload_n 0, 1) := by decide +kernel
theorem o171_6 : zop 171 6 = some (.iload_n 1, 1) := by decide +kernel
theorem o171_7 : zop 171 7 = some (.invokevirtual 172, 3) := by decide +kernel
theorem o171_10 : zop 171 10 = some (.ifCond .eq 12, 3) := by decide +kernel
theorem o171_13 : zop 171 13 = some (.iload_n 2, 1) := by decide +kernel
theorem o171_14 : zop 171 14 = some (.iconst 0, 1) := by decide +kernel
theorem o171_15 : zop 171 15 = some (.iconst 5, 1) := by decide +kernel
theorem o171_16 : zop 171 16 = some (.invokestatic 169, 3) := by decide +kernel
theorem o171_19 : zop 171 19 = some (.ifCond .ne 9, 3) := by decide +kernel
theorem o171_22 : zop 171 22 = some (.aload_n 0, 1) := by decide +kernel
theorem o171_23 : zop 171 23 = some (.iconst 1, 1) := by decide +kernel
theorem o171_24 : zop 171 24 = some (.invokevirtual 133, 3) := by decide +kernel
theorem o171_27 : zop 171 27 = some (.ireturn, 1) := by decide +kernel
theorem o171_28 : zop 171 28 = some (.iload_n 2, 1) := by decide +kernel
theorem o171_29 : zop 171 29 = some (.ifCond .ne 12, 3) := by decide +kernel
theorem o171_32 : zop 171 32 = some (.aload_n 0, 1) := by decide +kernel
theorem o171_33 : zop 171 33 = some (.getfield 1006, 3) := by decide +kernel
theorem o171_36 : zop 171 36 = some (.iload_n 1, 1) := by decide +kernel
theorem o171_37 : zop 171 37 = some (.iaload, 1) := by decide +kernel
theorem o171_38 : zop 171 38 = some (.goto 30, 3) := by decide +kernel
theorem o171_41 : zop 171 41 = some (.iload_n 2, 1) := by decide +kernel
theorem o171_42 : zop 171 42 = some (.iconst 1, 1) := by decide +kernel
theorem o171_43 : zop 171 43 = some (.if_icmp .ne 12, 3) := by decide +kernel
theorem o171_46 : zop 171 46 = some (.aload_n 0, 1) := by decide +kernel
theorem o171_47 : zop 171 47 = some (.getfield 1007, 3) := by decide +kernel
theorem o171_50 : zop 171 50 = some (.iload_n 1, 1) := by decide +kernel
theorem o171_51 : zop 171 51 = some (.iaload, 1) := by decide +kernel
theorem o171_52 : zop 171 52 = some (.goto 16, 3) := by decide +kernel
theorem o171_55 : zop 171 55 = some (.aload_n 0, 1) := by decide +kernel
theorem o171_56 : zop 171 56 = some (.getfield 1024, 3) := by decide +kernel
theorem o171_59 : zop 171 59 = some (.bipush 40, 2) := by decide +kernel
theorem o171_61 : zop 171 61 = some (.iload_n 2, 1) := by decide +kernel
theorem o171_62 : zop 171 62 = some (.iconst 2, 1) := by decide +kernel
theorem o171_63 : zop 171 63 = some (.isub, 1) := by decide +kernel
theorem o171_64 : zop 171 64 = some (.imul, 1) := by decide +kernel
theorem o171_65 : zop 171 65 = some (.iload_n 1, 1) := by decide +kernel
theorem o171_66 : zop 171 66 = some (.iadd, 1) := by decide +kernel
theorem o171_67 : zop 171 67 = some (.iaload, 1) := by decide +kernel
theorem o171_68 : zop 171 68 = some (.ireturn, 1) := by decide +kernel
theorem o172_0 : zop 172 0 = some (.iload_n 1, 1) := by decide +kernel
theorem o172_1 : zop 172 1 = some (.iconst 0, 1) := by decide +kernel
theorem o172_2 : zop 172 2 = some (.aload_n 0, 1) := by decide +kernel
theorem o172_3 : zop 172 3 = some (.getfield 1003, 3) := by decide +kernel
theorem o172_6 : zop 172 6 = some (.iconst 1, 1) := by decide +kernel
theorem o172_7 : zop 172 7 = some (.iaload, 1) := by decide +kernel
theorem o172_8 : zop 172 8 = some (.iconst 1, 1) := by decide +kernel
theorem o172_9 : zop 172 9 = some (.isub, 1) := by decide +kernel
theorem o172_10 : zop 172 10 = some (.invokestatic 169, 3) := by decide +kernel
theorem o172_13 : zop 172 13 = some (.ireturn, 1) := by decide +kernel
theorem o173_0 : zop 173 0 = some (.aload_n 0, 1) := by decide +kernel
theorem o173_1 : zop 173 1 = some (.iconst 0, 1) := by decide +kernel
theorem o173_2 : zop 173 2 = some (.putfield 1002, 3) := by decide +kernel
theorem o173_5 : zop 173 5 = some (.aload_n 0, 1) := by decide +kernel
theorem o173_6 : zop 173 6 = some (.iload_n 1, 1) := by decide +kernel
theorem o173_7 : zop 173 7 = some (.invokevirtual 168, 3) := by decide +kernel
theorem o173_10 : zop 173 10 = some (.ifCond .ne 9, 3) := by decide +kernel
theorem o173_13 : zop 173 13 = some (.aload_n 0, 1) := by decide +kernel
theorem o173_14 : zop 173 14 = some (.iconst 1, 1) := by decide +kernel
theorem o173_15 : zop 173 15 = some (.invokevirtual 133, 3) := by decide +kernel
theorem o173_18 : zop 173 18 = some (.ireturn, 1) := by decide +kernel
theorem o173_19 : zop 173 19 = some (.aload_n 0, 1) := by decide +kernel
theorem o173_20 : zop 173 20 = some (.iload_n 1, 1) := by decide +kernel
theorem o173_21 : zop 173 21 = some (.iload_n 2, 1) := by decide +kernel
theorem o173_22 : zop 173 22 = some (.invokevirtual 174, 3) := by decide +kernel
theorem o173_25 : zop 173 25 = some (.istore_n 3, 1) := by decide +kernel
theorem o173_26 : zop 173 26 = some (.iload_n 3, 1) := by decide +kernel
theorem o173_27 : zop 173 27 = some (.iconst (-1), 1) := by decide +kernel
theorem o173_28 : zop 173 28 = some (.if_icmp .ne 11, 3) := by decide +kernel
theorem o173_31 : zop 173 31 = some (.aload_n 0, 1) := by decide +kernel
theorem o173_32 : zop 173 32 = some (.iconst 1, 1) := by decide +kernel
theorem o173_33 : zop 173 33 = some (.invokevirtual 133, 3) := by decide +kernel
theorem o173_36 : zop 173 36 = some (.goto 4, 3) := by decide +kernel
theorem o173_39 : zop 173 39 = some (.iload_n 3, 1) := by decide +kernel
theorem o173_40 : zop 173 40 = some (.ireturn, 1) := by decide +kernel
theorem o174_0 : zop 174 0 = some (.iconst 0, 1) := by decide +kernel
theorem o174_1 : zop 174 1 = some (.istore_n 3, 1) := by decide +kernel
theorem o174_2 : zop 174 2 = some (.iload_n 3, 1) := by decide +kernel
theorem o174_3 : zop 174 3 = some (.aload_n 0, 1) := by decide +kernel
theorem o174_4 : zop 174 4 = some (.getfield 1003, 3) := by decide +kernel
theorem o174_7 : zop 174 7 = some (.iconst 1, 1) := by decide +kernel
theorem o174_8 : zop 174 8 = some (.iaload, 1) := by decide +kernel
theorem o174_9 : zop 174 9 = some (.if_icmp .ge 34, 3) := by decide +kernel
theorem o174_12 : zop 174 12 = some (.aload_n 0, 1) := by decide +kernel
theorem o174_13 : zop 174 13 = some (.getfield 1024, 3) := by decide +kernel
theorem o174_16 : zop 174 16 = some (.iload_n 3, 1) := by decide +kernel
theorem o174_17 : zop 174 17 = some (.iaload, 1) := by decide +kernel
theorem o174_18 : zop 174 18 = some (.iload_n 1, 1) := by decide +kernel
theorem o174_19 : zop 174 19 = some (.if_icmp .ne 18, 3) := by decide +kernel
theorem o174_22 : zop 174 22 = some (.aload_n 0, 1) := by decide +kernel
theorem o174_23 : zop 174 23 = some (.getfield 1024, 3) := by decide +kernel
theorem o174_26 : zop 174 26 = some (.bipush 40, 2) := by decide +kernel
theorem o174_28 : zop 174 28 = some (.iload_n 3, 1) := by decide +kernel
theorem o174_29 : zop 174 29 = some (.iadd, 1) := by decide +kernel
theorem o174_30 : zop 174 30 = some (.iaload, 1) := by decide +kernel
theorem o174_31 : zop 174 31 = some (.iload_n 2, 1) := by decide +kernel
theorem o174_32 : zop 174 32 = some (.if_icmp .ne 5, 3) := by decide +kernel
theorem o174_35 : zop 174 35 = some (.iload_n 3, 1) := by decide +kernel
theorem o174_36 : zop 174 36 = some (.ireturn, 1) := by decide +kernel
theorem o174_37 : zop 174 37 = some (.iinc 3 1, 3) := by decide +kernel
theorem o174_40 : zop 174 40 = some (.goto (-38), 3) := by decide +kernel
theorem o174_43 : zop 174 43 = some (.iconst (-1), 1) := by decide +kernel
theorem o174_44 : zop 174 44 = some (.ireturn, 1) := by decide +kernel
theorem o175_0 : zop 175 0 = some (.aload_n 0, 1) := by decide +kernel
theorem o175_1 : zop 175 1 = some (.iconst 0, 1) := by decide +kernel
theorem o175_2 : zop 175 2 = some (.putfield 1002, 3) := by decide +kernel
theorem o175_5 : zop 175 5 = some (.aload_n 0, 1) := by decide +kernel
theorem o175_6 : zop 175 6 = some (.iload_n 1, 1) := by decide +kernel
theorem o175_7 : zop 175 7 = some (.invokevirtual 176, 3) := by decide +kernel
theorem o175_10 : zop 175 10 = some (.ifCond .ne 9, 3) := by decide +kernel
theorem o175_13 : zop 175 13 = some (.aload_n 0, 1) := by decide +kernel
theorem o175_14 : zop 175 14 = some (.iconst 1, 1) := by decide +kernel
theorem o175_15 : zop 175 15 = some (.invokevirtual 133, 3) := by decide +kernel
theorem o175_18 : zop 175 18 = some (.ireturn, 1) := by decide +kernel
theorem o175_19 : zop 175 19 = some (.iload_n 2, 1) := by decide +kernel
theorem o175_20 : zop 175 20 = some (.ifCond .ne 12, 3) := by decide +kernel
theorem o175_23 : zop 175 23 = some (.aload_n 0, 1) := by decide +kernel
theorem o175_24 : zop 175 24 = some (.getfield 1008, 3) := by decide +kernel
theorem o175_27 : zop 175 27 = some (.iload_n 1, 1) := by decide +kernel
theorem o175_28 : zop 175 28 = some (.iaload, 1) := by decide +kernel
theorem o175_29 : zop 175 29 = some (.goto 54, 3) := by decide +kernel
theorem o175_32 : zop 175 32 = some (.iload_n 2, 1) := by decide +kernel
theorem o175_33 : zop 175 33 = some (.iconst 1, 1) := by decide +kernel
theorem o175_34 : zop 175 34 = some (.if_icmp .ne 12, 3) := by decide +kernel
theorem o175_37 : zop 175 37 = some (.aload_n 0, 1) := by decide +kernel
theorem o175_38 : zop 175 38 = some (.getfield 1009, 3) := by decide +kernel
theorem o175_41 : zop 175 41 = some (.iload_n 1, 1) := by decide +kernel
theorem o175_42 : zop 175 42 = some (.iaload, 1) := by decide +kernel
theorem o175_43 : zop 175 43 = some (.goto 40, 3) := by decide +kernel
theorem o175_46 : zop 175 46 = some (.iload_n 2, 1) := by decide +kernel
theorem o175_47 : zop 175 47 = some (.iconst 2, 1) := by decide +kernel
theorem o175_48 : zop 175 48 = some (.if_icmp .ne 12, 3) := by decide +kernel
theorem o175_51 : zop 175 51 = some (.aload_n 0, 1) := by decide +kernel
theorem o175_52 : zop 175 52 = some (.getfield 1010, 3) := by decide +kernel
theorem o175_55 : zop 175 55 = some (.iload_n 1, 1) := by decide +kernel
theorem o175_56 : zop 175 56 = some (.iaload, 1) := by decide +kernel
theorem o175_57 : zop 175 57 = some (.goto 26, 3) := by decide +kernel
theorem o175_60 : zop 175 60 = some (.iload_n 2, 1) := by decide +kernel
theorem o175_61 : zop 175 61 = some (.iconst 3, 1) := by decide +kernel
theorem o175_62 : zop 175 62 = some (.if_icmp .ne 16, 3) := by decide +kernel
theorem o175_65 : zop 175 65 = some (.aload_n 0, 1) := by decide +kernel
theorem o175_66 : zop 175 66 = some (.getfield 1024, 3) := by decide +kernel
theorem o175_69 : zop 175 69 = some (.sipush 166, 3) := by decide +kernel
theorem o175_72 : zop 175 72 = some (.iload_n 1, 1) := by decide +kernel
theorem o175_73 : zop 175 73 = some (.iadd, 1) := by decide +kernel
theorem o175_74 : zop 175 74 = some (.iaload, 1) := by decide +kernel
theorem o175_75 : zop 175 75 = some (.goto 8, 3) := by decide +kernel
theorem o175_78 : zop 175 78 = some (.aload_n 0, 1) := by decide +kernel
theorem o175_79 : zop 175 79 = some (.iconst 1, 1) := by decide +kernel
theorem o175_80 : zop 175 80 = some (.invokevirtual 133, 3) := by decide +kernel
theorem o175_83 : zop 175 83 = some (.ireturn, 1) := by decide +kernel
theorem o176_0 : zop 176 0 = some (.iload_n 1, 1) := by decide +kernel
theorem o176_1 : zop 176 1 = some (.iconst 0, 1) := by decide +kernel
theorem o176_2 : zop 176 2 = some (.aload_n 0, 1) := by decide +kernel
theorem o176_3 : zop 176 3 = some (.getfield 1003, 3) := by decide +kernel
theorem o176_6 : zop 176 6 = some (.iconst 2, 1) := by decide +kernel
theorem o176_7 : zop 176 7 = some (.iaload, 1) := by decide +kernel
theorem o176_8 : zop 176 8 = some (.iconst 1, 1) := by decide +kernel
theorem o176_9 : zop 176 9 = some (.isub, 1) := by decide +kernel
theorem o176_10 : zop 176 10 = some (.invokestatic 169, 3) := by decide +kernel
theorem o176_13 : zop 176 13 = some (.ireturn, 1) := by decide +kernel
theorem o177_0 : zop 177 0 = some (.aload_n 0, 1) := by decide +kernel
theorem o177_1 : zop 177 1 = some (.iconst 0, 1) := by decide +kernel
theorem o177_2 : zop 177 2 = some (.putfield 1002, 3) := by decide +kernel
theorem o177_5 : zop 177 5 = some (.aload_n 0, 1) := by decide +kernel
theorem o177_6 : zop 177 6 = some (.iload_n 1, 1) := by decide +kernel
theorem o177_7 : zop 177 7 = some (.invokevirtual 176, 3) := by decide +kernel
theorem o177_10 : zop 177 10 = some (.ifCond .eq 11, 3) := by decide +kernel
theorem o177_13 : zop 177 13 = some (.aload_n 0, 1) := by decide +kernel
theorem o177_14 : zop 177 14 = some (.iload_n 2, 1) := by decide +kernel
theorem o177_15 : zop 177 15 = some (.invokevirtual 168, 3) := by decide +kernel
theorem o177_18 : zop 177 18 = some (.ifCond .ne 9, 3) := by decide +kernel
theorem o177_21 : zop 177 21 = some (.aload_n 0, 1) := by decide +kernel
theorem o177_22 : zop 177 22 = some (.iconst 1, 1) := by decide +kernel
theorem o177_23 : zop 177 23 = some (.invokevirtual 133, 3) := by decide +kernel
theorem o177_26 : zop 177 26 = some (.ireturn, 1) := by decide +kernel
theorem o177_27 : zop 177 27 = some (.aload_n 0, 1) := by decide +kernel
theorem o177_28 : zop 177 28 = some (.getfield 1024, 3) := by decide +kernel
theorem o177_31 : zop 177 31 = some (.sipush 166, 3) := by decide +kernel
theorem o177_34 : zop 177 34 = some (.iload_n 1, 1) := by decide +kernel
theorem o177_35 : zop 177 35 = some (.iadd, 1) := by decide +kernel
theorem o177_36 : zop 177 36 = some (.iaload, 1) := by decide +kernel
theorem o177_37 : zop 177 37 = some (.istore 4, 2) := by decide +kernel
theorem o177_39 : zop 177 39 = some (.aload_n 0, 1) := by decide +kernel
theorem o177_40 : zop 177 40 = some (.getfield 1030, 3) := by decide +kernel
theorem o177_43 : zop 177 43 = some (.bipush 30, 2) := by decide +kernel
theorem o177_45 : zop 177 45 = some (.if_icmp .eq 23, 3) := by decide +kernel
theorem o177_48 : zop 177 48 = some (.iload 4, 2) := by decide +kernel
theorem o177_50 : zop 177 50 = some (.iload_n 2, 1) := by decide +kernel
theorem o177_51 : zop 177 51 = some (.if_icmp .eq 17, 3) := by decide +kernel
theorem o177_54 : zop 177 54 = some (.iload_n 3, 1) := by decide +kernel
theorem o177_55 : zop 177 55 = some (.iconst 0, 1) := by decide +kernel
theorem o177_56 : zop 177 56 = some (.aload_n 0, 1) := by decide +kernel
theorem o177_57 : zop 177 57 = some (.getfield 1009, 3) := by decide +kernel
theorem o177_60 : zop 177 60 = some (.iload_n 1, 1) := by decide +kernel
theorem o177_61 : zop 177 61 = some (.iaload, 1) := by decide +kernel
theorem o177_62 : zop 177 62 = some (.invokestatic 169, 3) := by decide +kernel
theorem o177_65 : zop 177 65 = some (.ifCond .ne 15, 3) := by decide +kernel
theorem o177_68 : zop 177 68 = some (.aload_n 0, 1) := by decide +kernel
theorem o177_69 : zop 177 69 = some (.getfield 1012, 3) := by decide +kernel
theorem o177_72 : zop 177 72 = some (.iconst 1, 1) := by decide +kernel
theorem o177_73 : zop 177 73 = some (.dup2, 1) := by decide +kernel
theorem o177_74 : zop 177 74 = some (.iaload, 1) := by decide +kernel
theorem o177_75 : zop 177 75 = some (.iconst 1, 1) := by decide +kernel
theorem o177_76 : zop 177 76 = some (.iadd, 1) := by decide +kernel
theorem o177_77 : zop 177 77 = some (.iastore, 1) := by decide +kernel
theorem o177_78 : zop 177 78 = some (.iconst (-1), 1) := by decide +kernel
theorem o177_79 : zop 177 79 = some (.ireturn, 1) := by decide +kernel
theorem o177_80 : zop 177 80 = some (.iconst 0, 1) := by decide +kernel
theorem o177_81 : zop 177 81 = some (.istore 5, 2) := by decide +kernel
theorem o177_83 : zop 177 83 = some (.iload 5, 2) := by decide +kernel
theorem o177_85 : zop 177 85 = some (.sipush 171, 3) := by decide +kernel
theorem o177_88 : zop 177 88 = some (.if_icmp .ge 32, 3) := by decide +kernel
theorem o177_91 : zop 177 91 = some (.aload_n 0, 1) := by decide +kernel
theorem o177_92 : zop 177 92 = some (.getfield 1026, 3) := by decide +kernel
theorem o177_95 : zop 177 95 = some (.sipush 171, 3) := by decide +kernel
theorem o177_98 : zop 177 98 = some (.aload_n 0, 1) := by decide +kernel
theorem o177_99 : zop 177 99 = some (.getfield 1030, 3) := by decide +kernel
theorem o177_102 : zop 177 102 = some (.imul, 1) := by decide +kernel
theorem o177_103 : zop 177 103 = some (.iload 5, 2) := by decide +kernel
theorem o177_105 : zop 177 105 = some (.iadd, 1) := by decide +kernel
theorem o177_106 : zop 177 106 = some (.aload_n 0, 1) := by decide +kernel
theorem o177_107 : zop 177 107 = some (.getfield 1024, 3) := by decide +kernel
theorem o177_110 : zop 177 110 = some (.iload 5, 2) := by decide +kernel
theorem o177_112 : zop 177 112 = some (.iaload, 1) := by decide +kernel
theorem o177_113 : zop 177 113 = some (.iastore, 1) := by decide +kernel
theorem o177_114 : zop 177 114 = some (.iinc 5 1, 3) := by decide +kernel
theorem o177_117 : zop 177 117 = some (.goto (-34), 3) := by decide +kernel
theorem o177_120 : zop 177 120 = some (.aload_n 0, 1) := by decide +kernel
theorem o177_121 : zop 177 121 = some (.aload_n 0, 1) := by decide +kernel
theorem o177_122 : zop 177 122 = some (.getfield 1024, 3) := by decide +kernel
theorem o177_125 : zop 177 125 = some (.iload_n 1, 1) := by decide +kernel
theorem o177_126 : zop 177 126 = some (.iload_n 2, 1) := by decide +kernel
theorem o177_127 : zop 177 127 = some (.iload_n 3, 1) := by decide +kernel
theorem o177_128 : zop 177 128 = some (.aload_n 0, 1) := by decide +kernel
theorem o177_129 : zop 177 129 = some (.getfield 1030, 3) := by decide +kernel
theorem o177_132 : zop 177 132 = some (.invokevirtual 178, 3) := by decide +kernel
theorem o177_135 : zop 177 135 = some (.istore 5, 2) := by decide +kernel
theorem o177_137 : zop 177 137 = some (.bipush 6, 2) := by decide +kernel
theorem o177_139 : zop 177 139 = some (.aload_n 0, 1) := by decide +kernel
theorem o177_140 : zop 177 140 = some (.getfield 1030, 3) := by decide +kernel
theorem o177_143 : zop 177 143 = some (.imul, 1) := by decide +kernel
theorem o177_144 : zop 177 144 = some (.istore 6, 2) := by decide +kernel
theorem o177_146 : zop 177 146 = some (.aload_n 0, 1) := by decide +kernel
theorem o177_147 : zop 177 147 = some (.getfield 1034, 3) := by decide +kernel
theorem o177_150 : zop 177 150 = some (.iload 6, 2) := by decide +kernel
theorem o177_152 : zop 177 152 = some (.iload_n 1, 1) := by decide +kernel
theorem o177_153 : zop 177 153 = some (.iastore, 1) := by decide +kernel
theorem o177_154 : zop 177 154 = some (.aload_n 0, 1) := by decide +kernel
theorem o177_155 : zop 177 155 = some (.getfield 1034, 3) := by decide +kernel
theorem o177_158 : zop 177 158 = some (.iload 6, 2) := by decide +kernel
theorem o177_160 : zop 177 160 = some (.iconst 1, 1) := by decide +kernel
theorem o177_161 : zop 177 161 = some (.iadd, 1) := by decide +kernel
theorem o177_162 : zop 177 162 = some (.iload 4, 2) := by decide +kernel
theorem o177_164 : zop 177 164 = some (.iastore, 1) := by decide +kernel
theorem o177_165 : zop 177 165 = some (.aload_n 0, 1) := by decide +kernel
theorem o177_166 : zop 177 166 = some (.getfield 1034, 3) := by decide +kernel
theorem o177_169 : zop 177 169 = some (.iload 6, 2) := by decide +kernel
theorem o177_171 : zop 177 171 = some (.iconst 2, 1) := by decide +kernel
theorem o177_172 : zop 177 172 = some (.iadd, 1) := by decide +kernel
theorem o177_173 : zop 177 173 = some (.iload_n 2, 1) := by decide +kernel
theorem o177_174 : zop 177 174 = some (.iastore, 1) := by decide +kernel
theorem o177_175 : zop 177 175 = some (.aload_n 0, 1) := by decide +kernel
theorem o177_176 : zop 177 176 = some (.getfield 1034, 3) := by decide +kernel
theorem o177_179 : zop 177 179 = some (.iload 6, 2) := by decide +kernel
theorem o177_181 : zop 177 181 = some (.iconst 3, 1) := by decide +kernel
theorem o177_182 : zop 177 182 = some (.iadd, 1) := by decide +kernel
theorem o177_183 : zop 177 183 = some (.iload_n 3, 1) := by decide +kernel
theorem o177_184 : zop 177 184 = some (.iastore, 1) := by decide +kernel
theorem o177_185 : zop 177 185 = some (.aload_n 0, 1) := by decide +kernel
theorem o177_186 : zop 177 186 = some (.getfield 1034, 3) := by decide +kernel
theorem o177_189 : zop 177 189 = some (.iload 6, 2) := by decide +kernel
theorem o177_191 : zop 177 191 = some (.iconst 4, 1) := by decide +kernel
theorem o177_192 : zop 177 192 = some (.iadd, 1) := by decide +kernel
theorem o177_193 : zop 177 193 = some (.iload 5, 2) := by decide +kernel
theorem o177_195 : zop 177 195 = some (.iastore, 1) := by decide +kernel
theorem o177_196 : zop 177 196 = some (.aload_n 0, 1) := by decide +kernel
theorem o177_197 : zop 177 197 = some (.getfield 1034, 3) := by decide +kernel
theorem o177_200 : zop 177 200 = some (.iload 6, 2) := by decide +kernel
theorem o177_202 : zop 177 202 = some (.iconst 5, 1) := by decide +kernel
theorem o177_203 : zop 177 203 = some (.iadd, 1) := by decide +kernel
theorem o177_204 : zop 177 204 = some (.aload_n 0, 1) := by decide +kernel
theorem o177_205 : zop 177 205 = some (.iload 4, 2) := by decide +kernel
theorem o177_207 : zop 177 207 = some (.iload_n 2, 1) := by decide +kernel
theorem o177_208 : zop 177 208 = some (.iload 5, 2) := by decide +kernel
theorem o177_210 : zop 177 210 = some (.aload_n 0, 1) := by decide +kernel
theorem o177_211 : zop 177 211 = some (.getfield 1030, 3) := by decide +kernel
theorem o177_214 : zop 177 214 = some (.invokevirtual 182, 3) := by decide +kernel
theorem o177_217 : zop 177 217 = some (.iastore, 1) := by decide +kernel
theorem o177_218 : zop 177 218 = some (.aload_n 0, 1) := by decide +kernel
theorem o177_219 : zop 177 219 = some (.dup, 1) := by decide +kernel
theorem o177_220 : zop 177 220 = some (.getfield 1030, 3) := by decide +kernel
theorem o177_223 : zop 177 223 = some (.iconst 1, 1) := by decide +kernel
theorem o177_224 : zop 177 224 = some (.iadd, 1) := by decide +kernel
theorem o177_225 : zop 177 225 = some (.putfield 1030, 3) := by decide +kernel
theorem o177_228 : zop 177 228 = some (.iload 5, 2) := by decide +kernel
theorem o177_230 : zop 177 230 = some (.ireturn, 1) := by decide +kernel
theorem o178_0 : zop 178 0 = some (.aload_n 0, 1) := by decide +kernel
theorem o178_1 : zop 178 1 = some (.getfield 1009, 3) := by decide +kernel
theorem o178_4 : zop 178 4 = some (.iload_n 2, 1) := by decide +kernel
theorem o178_5 : zop 178 5 = some (.iaload, 1) := by decide +kernel
theorem o178_6 : zop 178 6 = some (.iload 4, 2) := by decide +kernel
theorem o178_8 : zop 178 8 = some (.isub, 1) := by decide +kernel
theorem o178_9 : zop 178 9 = some (.istore 6, 2) := by decide +kernel
theorem o178_11 : zop 178 11 = some (.aload_n 0, 1) := by decide +kernel
theorem o178_12 : zop 178 12 = some (.getfield 1008, 3) := by decide +kernel
theorem o178_15 : zop 178 15 = some (.iload_n 2, 1) := by decide +kernel
theorem o178_16 : zop 178 16 = some (.iaload, 1) := by decide +kernel
theorem o178_17 : zop 178 17 = some (.iconst 3, 1) := by decide +kernel
theorem o178_18 : zop 178 18 = some (.if_icmp .ne 9, 3) := by decide +kernel
theorem o178_21 : zop 178 21 = some (.iload 6, 2) := by decide +kernel
theorem o178_23 : zop 178 23 = some (.iconst 2, 1) := by decide +kernel
theorem o178_24 : zop 178 24 = some (.idiv, 1) := by decide +kernel
theorem o178_25 : zop 178 25 = some (.istore 6, 2) := by decide +kernel
theorem o178_27 : zop 178 27 = some (.iload 6, 2) := by decide +kernel
theorem o178_29 : zop 178 29 = some (.aload_n 0, 1) := by decide +kernel
theorem o178_30 : zop 178 30 = some (.aload_n 1, 1) := by decide +kernel
theorem o178_31 : zop 178 31 = some (.aload_n 1, 1) := by decide +kernel
theorem o178_32 : zop 178 32 = some (.sipush 166, 3) := by decide +kernel
theorem o178_35 : zop 178 35 = some (.iload_n 2, 1) := by decide +kernel
theorem o178_36 : zop 178 36 = some (.iadd, 1) := by decide +kernel
theorem o178_37 : zop 178 37 = some (.iaload, 1) := by decide +kernel
theorem o178_38 : zop 178 38 = some (.invokevirtual 165, 3) := by decide +kernel
theorem o178_41 : zop 178 41 = some (.invokestatic 1001, 3) := by decide +kernel
theorem o178_44 : zop 178 44 = some (.istore 7, 2) := by decide +kernel
theorem o178_46 : zop 178 46 = some (.iconst 0, 1) := by decide +kernel
theorem o178_47 : zop 178 47 = some (.istore 8, 2) := by decide +kernel
theorem o178_49 : zop 178 49 = some (.iload 8, 2) := by decide +kernel
theorem o178_51 : zop 178 51 = some (.iload 7, 2) := by decide +kernel
theorem o178_53 : zop 178 53 = some (.if_icmp .ge 34, 3) := by decide +kernel
theorem o178_56 : zop 178 56 = some (.aload_n 0, 1) := by decide +kernel
theorem o178_57 : zop 178 57 = some (.getfield 1027, 3) := by decide +kernel
theorem o178_60 : zop 178 60 = some (.iload 8, 2) := by decide +kernel
theorem o178_62 : zop 178 62 = some (.aload_n 0, 1) := by decide +kernel
theorem o178_63 : zop 178 63 = some (.aload_n 1, 1) := by decide +kernel
theorem o178_64 : zop 178 64 = some (.iload_n 2, 1) := by decide +kernel
theorem o178_65 : zop 178 65 = some (.invokevirtual 179, 3) := by decide +kernel
theorem o178_68 : zop 178 68 = some (.iastore, 1) := by decide +kernel
theorem o178_69 : zop 178 69 = some (.aload_n 0, 1) := by decide +kernel
theorem o178_70 : zop 178 70 = some (.aload_n 1, 1) := by decide +kernel
theorem o178_71 : zop 178 71 = some (.aload_n 0, 1) := by decide +kernel
theorem o178_72 : zop 178 72 = some (.getfield 1027, 3) := by decide +kernel
theorem o178_75 : zop 178 75 = some (.iload 8, 2) := by decide +kernel
theorem o178_77 : zop 178 77 = some (.iaload, 1) := by decide +kernel
theorem o178_78 : zop 178 78 = some (.invokevirtual 181, 3) := by decide +kernel
theorem o178_81 : zop 178 81 = some (.iinc 8 1, 3) := by decide +kernel
theorem o178_84 : zop 178 84 = some (.goto (-35), 3) := by decide +kernel
theorem o178_87 : zop 178 87 = some (.aload_n 0, 1) := by decide +kernel
theorem o178_88 : zop 178 88 = some (.aload_n 1, 1) := by decide +kernel
theorem o178_89 : zop 178 89 = some (.iload_n 3, 1) := by decide +kernel
theorem o178_90 : zop 178 90 = some (.invokevirtual 165, 3) := by decide +kernel
theorem o178_93 : zop 178 93 = some (.istore 8, 2) := by decide +kernel
theorem o178_95 : zop 178 95 = some (.iconst 0, 1) := by decide +kernel
theorem o178_96 : zop 178 96 = some (.istore 9, 2) := by decide +kernel
theorem o178_98 : zop 178 98 = some (.iload 9, 2) := by decide +kernel
theorem o178_100 : zop 178 100 = some (.iload 7, 2) := by decide +kernel
theorem o178_102 : zop 178 102 = some (.if_icmp .ge 57, 3) := by decide +kernel
theorem o178_105 : zop 178 105 = some (.aload_n 0, 1) := by decide +kernel
theorem o178_106 : zop 178 106 = some (.getfield 1027, 3) := by decide +kernel
theorem o178_109 : zop 178 109 = some (.iload 9, 2) := by decide +kernel
theorem o178_111 : zop 178 111 = some (.iaload, 1) := by decide +kernel
theorem o178_112 : zop 178 112 = some (.istore 10, 2) := by decide +kernel
theorem o178_114 : zop 178 114 = some (.aload_n 1, 1) := by decide +kernel
theorem o178_115 : zop 178 115 = some (.iload 10, 2) := by decide +kernel
theorem o178_117 : zop 178 117 = some (.iload_n 3, 1) := by decide +kernel
theorem o178_118 : zop 178 118 = some (.iastore, 1) := by decide +kernel
theorem o178_119 : zop 178 119 = some (.aload_n 1, 1) := by decide +kernel
theorem o178_120 : zop 178 120 = some (.bipush 40, 2) := by decide +kernel
theorem o178_122 : zop 178 122 = some (.iload 10, 2) := by decide +kernel
theorem o178_124 : zop 178 124 = some (.iadd, 1) := by decide +kernel
theorem o178_125 : zop 178 125 = some (.iload 8, 2) := by decide +kernel
theorem o178_127 : zop 178 127 = some (.iload 9, 2) := by decide +kernel
theorem o178_129 : zop 178 129 = some (.iadd, 1) := by decide +kernel
theorem o178_130 : zop 178 130 = some (.iastore, 1) := by decide +kernel
theorem o178_131 : zop 178 131 = some (.aload_n 1, 1) := by decide +kernel
theorem o178_132 : zop 178 132 = some (.bipush 80, 2) := by decide +kernel
theorem o178_134 : zop 178 134 = some (.iload 10, 2) := by decide +kernel
theorem o178_136 : zop 178 136 = some (.iadd, 1) := by decide +kernel
theorem o178_137 : zop 178 137 = some (.iload 5, 2) := by decide +kernel
theorem o178_139 : zop 178 139 = some (.iastore, 1) := by decide +kernel
theorem o178_140 : zop 178 140 = some (.aload_n 1, 1) := by decide +kernel
theorem o178_141 : zop 178 141 = some (.bipush 120, 2) := by decide +kernel
theorem o178_143 : zop 178 143 = some (.iload 10, 2) := by decide +kernel
theorem o178_145 : zop 178 145 = some (.iadd, 1) := by decide +kernel
theorem o178_146 : zop 178 146 = some (.dup2, 1) := by decide +kernel
theorem o178_147 : zop 178 147 = some (.iaload, 1) := by decide +kernel
theorem o178_148 : zop 178 148 = some (.iconst 1, 1) := by decide +kernel
theorem o178_149 : zop 178 149 = some (.iload_n 3, 1) := by decide +kernel
theorem o178_150 : zop 178 150 = some (.ishl, 1) := by decide +kernel
theorem o178_151 : zop 178 151 = some (.ior, 1) := by decide +kernel
theorem o178_152 : zop 178 152 = some (.iastore, 1) := by decide +kernel
theorem o178_153 : zop 178 153 = some (.iinc 9 1, 3) := by decide +kernel
theorem o178_156 : zop 178 156 = some (.goto (-58), 3) := by decide +kernel
theorem o178_159 : zop 178 159 = some (.aload_n 1, 1) := by decide +kernel
theorem o178_160 : zop 178 160 = some (.sipush 166, 3) := by decide +kernel
theorem o178_163 : zop 178 163 = some (.iload_n 2, 1) := by decide +kernel
theorem o178_164 : zop 178 164 = some (.iadd, 1) := by decide +kernel
theorem o178_165 : zop 178 165 = some (.iload_n 3, 1) := by decide +kernel
theorem o178_166 : zop 178 166 = some (.iastore, 1) := by decide +kernel
theorem o178_167 : zop 178 167 = some (.iconst 0, 1) := by decide +kernel
theorem o178_168 : zop 178 168 = some (.istore 9, 2) := by decide +kernel
theorem o178_170 : zop 178 170 = some (.iload 9, 2) := by decide +kernel
theorem o178_172 : zop 178 172 = some (.aload_n 0, 1) := by decide +kernel
theorem o178_173 : zop 178 173 = some (.getfield 1003, 3) := by decide +kernel
theorem o178_176 : zop 178 176 = some (.iconst 0, 1) := by decide +kernel
theorem o178_177 : zop 178 177 = some (.iaload, 1) := by decide +kernel
theorem o178_178 : zop 178 178 = some (.if_icmp .ge 90, 3) := by decide +kernel
theorem o178_181 : zop 178 181 = some (.aload_n 0, 1) := by decide +kernel
theorem o178_182 : zop 178 182 = some (.aload_n 1, 1) := by decide +kernel
theorem o178_183 : zop 178 183 = some (.iload 9, 2) := by decide +kernel
theorem o178_185 : zop 178 185 = some (.invokevirtual 165, 3) := by decide +kernel
theorem o178_188 : zop 178 188 = some (.istore 10, 2) := by decide +kernel
theorem o178_190 : zop 178 190 = some (.iload 10, 2) := by decide +kernel
theorem o178_192 : zop 178 192 = some (.aload_n 0, 1) := by decide +kernel
theorem o178_193 : zop 178 193 = some (.getfield 1004, 3) := by decide +kernel
theorem o178_196 : zop 178 196 = some (.iload 9, 2) := by decide +kernel
theorem o178_198 : zop 178 198 = some (.iaload, 1) := by decide +kernel
theorem o178_199 : zop 178 199 = some (.if_icmp .ge 29, 3) := by decide +kernel
theorem o178_202 : zop 178 202 = some (.aload_n 1, 1) := by decide +kernel
theorem o178_203 : zop 178 203 = some (.sipush 160, 3) := by decide +kernel
theorem o178_206 : zop 178 206 = some (.iload 9, 2) := by decide +kernel
theorem o178_208 : zop 178 208 = some (.iadd, 1) := by decide +kernel
theorem o178_209 : zop 178 209 = some (.bipush 99, 2) := by decide +kernel
theorem o178_211 : zop 178 211 = some (.aload_n 1, 1) := by decide +kernel
theorem o178_212 : zop 178 212 = some (.sipush 160, 3) := by decide +kernel
theorem o178_215 : zop 178 215 = some (.iload 9, 2) := by decide +kernel
theorem o178_217 : zop 178 217 = some (.iadd, 1) := by decide +kernel
theorem o178_218 : zop 178 218 = some (.iaload, 1) := by decide +kernel
theorem o178_219 : zop 178 219 = some (.iconst 1, 1) := by decide +kernel
theorem o178_220 : zop 178 220 = some (.iadd, 1) := by decide +kernel
theorem o178_221 : zop 178 221 = some (.invokestatic 1001, 3) := by decide +kernel
theorem o178_224 : zop 178 224 = some (.iastore, 1) := by decide +kernel
theorem o178_225 : zop 178 225 = some (.goto 37, 3) := by decide +kernel
theorem o178_228 : zop 178 228 = some (.iload 10, 2) := by decide +kernel
theorem o178_230 : zop 178 230 = some (.aload_n 0, 1) := by decide +kernel
theorem o178_231 : zop 178 231 = some (.getfield 1004, 3) := by decide +kernel
theorem o178_234 : zop 178 234 = some (.iload 9, 2) := by decide +kernel
theorem o178_236 : zop 178 236 = some (.iaload, 1) := by decide +kernel
theorem o178_237 : zop 178 237 = some (.if_icmp .le 25, 3) := by decide +kernel
theorem o178_240 : zop 178 240 = some (.aload_n 1, 1) := by decide +kernel
theorem o178_241 : zop 178 241 = some (.sipush 160, 3) := by decide +kernel
theorem o178_244 : zop 178 244 = some (.iload 9, 2) := by decide +kernel
theorem o178_246 : zop 178 246 = some (.iadd, 1) := by decide +kernel
theorem o178_247 : zop 178 247 = some (.iconst 0, 1) := by decide +kernel
theorem o178_248 : zop 178 248 = some (.aload_n 1, 1) := by decide +kernel
theorem o178_249 : zop 178 249 = some (.sipush 160, 3) := by decide +kernel
theorem o178_252 : zop 178 252 = some (.iload 9, 2) := by decide +kernel
theorem o178_254 : zop 178 254 = some (.iadd, 1) := by decide +kernel
theorem o178_255 : zop 178 255 = some (.iaload, 1) := by decide +kernel
theorem o178_256 : zop 178 256 = some (.iconst 1, 1) := by decide +kernel
theorem o178_257 : zop 178 257 = some (.isub, 1) := by decide +kernel
theorem o178_258 : zop 178 258 = some (.invokestatic 1002, 3) := by decide +kernel
theorem o178_261 : zop 178 261 = some (.iastore, 1) := by decide +kernel
theorem o178_262 : zop 178 262 = some (.iinc 9 1, 3) := by decide +kernel
theorem o178_265 : zop 178 265 = some (.goto (-95), 3) := by decide +kernel
theorem o178_268 : zop 178 268 = some (.iload 7, 2) := by decide +kernel
theorem o178_270 : zop 178 270 = some (.ireturn, 1) := by decide +kernel
