theorem dX10_odds_62 : decode cX10_odds 62 = .ok (.if_icmp .lt 15, 3) := by decide +kernel
theorem dX10_odds_65 : decode cX10_odds 65 = .ok (.lload 4, 2) := by decide +kernel
theorem dX10_odds_67 : decode cX10_odds 67 = .ok (.aload_n 0, 1) := by decide +kernel
theorem dX10_odds_68 : decode cX10_odds 68 = .ok (.iload 6, 2) := by decide +kernel
theorem dX10_odds_70 : decode cX10_odds 70 = .ok (.iload_n 2, 1) := by decide +kernel
theorem dX10_odds_71 : decode cX10_odds 71 = .ok (.invokevirtual 269, 3) := by decide +kernel
theorem dX10_odds_74 : decode cX10_odds 74 = .ok (.ladd, 1) := by decide +kernel
theorem dX10_odds_75 : decode cX10_odds 75 = .ok (.lstore 4, 2) := by decide +kernel
theorem dX10_odds_77 : decode cX10_odds 77 = .ok (.iinc 6 1, 3) := by decide +kernel
theorem dX10_odds_80 : decode cX10_odds 80 = .ok (.goto (-42), 3) := by decide +kernel
theorem dX10_odds_83 : decode cX10_odds 83 = .ok (.lconst 1, 1) := by decide +kernel
theorem dX10_odds_84 : decode cX10_odds 84 = .ok (.lstore 6, 2) := by decide +kernel
theorem dX10_odds_86 : decode cX10_odds 86 = .ok (.iconst 0, 1) := by decide +kernel
theorem dX10_odds_87 : decode cX10_odds 87 = .ok (.istore 8, 2) := by decide +kernel
theorem dX10_odds_89 : decode cX10_odds 89 = .ok (.iload 8, 2) := by decide +kernel
theorem dX10_odds_91 : decode cX10_odds 91 = .ok (.aload_n 0, 1) := by decide +kernel
theorem dX10_odds_92 : decode cX10_odds 92 = .ok (.getfield 53, 3) := by decide +kernel
theorem dX10_odds_95 : decode cX10_odds 95 = .ok (.getfield 175, 3) := by decide +kernel
theorem dX10_odds_98 : decode cX10_odds 98 = .ok (.if_icmp .ge 17, 3) := by decide +kernel
theorem dX10_odds_101 : decode cX10_odds 101 = .ok (.lload 6, 2) := by decide +kernel
theorem dX10_odds_103 : decode cX10_odds 103 = .ok (.ldc2_w 273, 3) := by decide +kernel
theorem dX10_odds_106 : decode cX10_odds 106 = .ok (.lmul, 1) := by decide +kernel
theorem dX10_odds_107 : decode cX10_odds 107 = .ok (.lstore 6, 2) := by decide +kernel
theorem dX10_odds_109 : decode cX10_odds 109 = .ok (.iinc 8 1, 3) := by decide +kernel
theorem dX10_odds_112 : decode cX10_odds 112 = .ok (.goto (-23), 3) := by decide +kernel
theorem dX10_odds_115 : decode cX10_odds 115 = .ok (.aload_n 0, 1) := by decide +kernel
theorem dX10_odds_116 : decode cX10_odds 116 = .ok (.lload 4, 2) := by decide +kernel
theorem dX10_odds_118 : decode cX10_odds 118 = .ok (.lload 6, 2) := by decide +kernel
theorem dX10_odds_120 : decode cX10_odds 120 = .ok (.invokevirtual 275, 3) := by decide +kernel
theorem dX10_odds_123 : decode cX10_odds 123 = .ok (.iconst 1, 1) := by decide +kernel
theorem dX10_odds_124 : decode cX10_odds 124 = .ok (.ireturn, 1) := by decide +kernel
theorem dX10_mid_0 : decode cX10_mid 0 = .ok (.iload_n 1, 1) := by decide +kernel
theorem dX10_mid_1 : decode cX10_mid 1 = .ok (.invokestatic 159, 3) := by decide +kernel
theorem dX10_mid_4 : decode cX10_mid 4 = .ok (.ifCond .eq 10, 3) := by decide +kernel
theorem dX10_mid_7 : decode cX10_mid 7 = .ok (.iload_n 2, 1) := by decide +kernel
theorem dX10_mid_8 : decode cX10_mid 8 = .ok (.invokestatic 263, 3) := by decide +kernel
theorem dX10_mid_11 : decode cX10_mid 11 = .ok (.ifCond .ne 5, 3) := by decide +kernel
theorem dX10_mid_14 : decode cX10_mid 14 = .ok (.iconst (-1), 1) := by decide +kernel
theorem dX10_mid_15 : decode cX10_mid 15 = .ok (.ireturn, 1) := by decide +kernel
theorem dX10_mid_16 : decode cX10_mid 16 = .ok (.aload_n 0, 1) := by decide +kernel
theorem dX10_mid_17 : decode cX10_mid 17 = .ok (.getfield 134, 3) := by decide +kernel
theorem dX10_mid_20 : decode cX10_mid 20 = .ok (.ifCond .ne 6, 3) := by decide +kernel
theorem dX10_mid_23 : decode cX10_mid 23 = .ok (.bipush (-4), 2) := by decide +kernel
theorem dX10_mid_25 : decode cX10_mid 25 = .ok (.ireturn, 1) := by decide +kernel
theorem dX10_mid_26 : decode cX10_mid 26 = .ok (.aload_n 0, 1) := by decide +kernel
theorem dX10_mid_27 : decode cX10_mid 27 = .ok (.aload_n 0, 1) := by decide +kernel
theorem dX10_mid_28 : decode cX10_mid 28 = .ok (.iload_n 1, 1) := by decide +kernel
theorem dX10_mid_29 : decode cX10_mid 29 = .ok (.invokevirtual 207, 3) := by decide +kernel
theorem dX10_mid_32 : decode cX10_mid 32 = .ok (.i2l, 1) := by decide +kernel
theorem dX10_mid_33 : decode cX10_mid 33 = .ok (.bipush 12, 2) := by decide +kernel
theorem dX10_mid_35 : decode cX10_mid 35 = .ok (.iload_n 2, 1) := by decide +kernel
theorem dX10_mid_36 : decode cX10_mid 36 = .ok (.isub, 1) := by decide +kernel
theorem dX10_mid_37 : decode cX10_mid 37 = .ok (.i2l, 1) := by decide +kernel
theorem dX10_mid_38 : decode cX10_mid 38 = .ok (.lmul, 1) := by decide +kernel
theorem dX10_mid_39 : decode cX10_mid 39 = .ok (.ldc2_w 273, 3) := by decide +kernel
theorem dX10_mid_42 : decode cX10_mid 42 = .ok (.invokevirtual 275, 3) := by decide +kernel
theorem dX10_mid_45 : decode cX10_mid 45 = .ok (.iconst 1, 1) := by decide +kernel
theorem dX10_mid_46 : decode cX10_mid 46 = .ok (.ireturn, 1) := by decide +kernel
theorem dX10_lots_0 : decode cX10_lots 0 = .ok (.iload_n 1, 1) := by decide +kernel
theorem dX10_lots_1 : decode cX10_lots 1 = .ok (.iconst 1, 1) := by decide +kernel
theorem dX10_lots_2 : decode cX10_lots 2 = .ok (.if_icmp .lt 23, 3) := by decide +kernel
theorem dX10_lots_5 : decode cX10_lots 5 = .ok (.iload_n 1, 1) := by decide +kernel
theorem dX10_lots_6 : decode cX10_lots 6 = .ok (.bipush 20, 2) := by decide +kernel
theorem dX10_lots_8 : decode cX10_lots 8 = .ok (.if_icmp .gt 17, 3) := by decide +kernel
theorem dX10_lots_11 : decode cX10_lots 11 = .ok (.iload_n 2, 1) := by decide +kernel
theorem dX10_lots_12 : decode cX10_lots 12 = .ok (.iconst 1, 1) := by decide +kernel
theorem dX10_lots_13 : decode cX10_lots 13 = .ok (.if_icmp .lt 12, 3) := by decide +kernel
theorem dX10_lots_16 : decode cX10_lots 16 = .ok (.iload_n 2, 1) := by decide +kernel
theorem dX10_lots_17 : decode cX10_lots 17 = .ok (.i2l, 1) := by decide +kernel
theorem dX10_lots_18 : decode cX10_lots 18 = .ok (.ldc2_w 279, 3) := by decide +kernel
theorem dX10_lots_21 : decode cX10_lots 21 = .ok (.lcmp, 1) := by decide +kernel
theorem dX10_lots_22 : decode cX10_lots 22 = .ok (.ifCond .lt 5, 3) := by decide +kernel
theorem dX10_lots_25 : decode cX10_lots 25 = .ok (.iconst (-1), 1) := by decide +kernel
theorem dX10_lots_26 : decode cX10_lots 26 = .ok (.ireturn, 1) := by decide +kernel
theorem dX10_lots_27 : decode cX10_lots 27 = .ok (.aload_n 0, 1) := by decide +kernel
theorem dX10_lots_28 : decode cX10_lots 28 = .ok (.getfield 134, 3) := by decide +kernel
theorem dX10_lots_31 : decode cX10_lots 31 = .ok (.ifCond .ne 6, 3) := by decide +kernel
theorem dX10_lots_34 : decode cX10_lots 34 = .ok (.bipush (-4), 2) := by decide +kernel
theorem dX10_lots_36 : decode cX10_lots 36 = .ok (.ireturn, 1) := by decide +kernel
theorem dX10_lots_37 : decode cX10_lots 37 = .ok (.aload_n 0, 1) := by decide +kernel
theorem dX10_lots_38 : decode cX10_lots 38 = .ok (.getfield 53, 3) := by decide +kernel
theorem dX10_lots_41 : decode cX10_lots 41 = .ok (.getfield 191, 3) := by decide +kernel
theorem dX10_lots_44 : decode cX10_lots 44 = .ok (.iload_n 1, 1) := by decide +kernel
theorem dX10_lots_45 : decode cX10_lots 45 = .ok (.iadd, 1) := by decide +kernel
theorem dX10_lots_46 : decode cX10_lots 46 = .ok (.bipush 40, 2) := by decide +kernel
theorem dX10_lots_48 : decode cX10_lots 48 = .ok (.if_icmp .le 6, 3) := by decide +kernel
theorem dX10_lots_51 : decode cX10_lots 51 = .ok (.bipush (-2), 2) := by decide +kernel
theorem dX10_lots_53 : decode cX10_lots 53 = .ok (.ireturn, 1) := by decide +kernel
theorem dX10_lots_54 : decode cX10_lots 54 = .ok (.iload_n 2, 1) := by decide +kernel
theorem dX10_lots_55 : decode cX10_lots 55 = .ok (.i2l, 1) := by decide +kernel
theorem dX10_lots_56 : decode cX10_lots 56 = .ok (.lstore_n 3, 1) := by decide +kernel
theorem dX10_lots_57 : decode cX10_lots 57 = .ok (.iconst 0, 1) := by decide +kernel
theorem dX10_lots_58 : decode cX10_lots 58 = .ok (.istore 5, 2) := by decide +kernel
theorem dX10_lots_60 : decode cX10_lots 60 = .ok (.iload 5, 2) := by decide +kernel
theorem dX10_lots_62 : decode cX10_lots 62 = .ok (.iload_n 1, 1) := by decide +kernel
theorem dX10_lots_63 : decode cX10_lots 63 = .ok (.if_icmp .ge 24, 3) := by decide +kernel
theorem dX10_lots_66 : decode cX10_lots 66 = .ok (.lload_n 3, 1) := by decide +kernel
theorem dX10_lots_67 : decode cX10_lots 67 = .ok (.ldc2_w 281, 3) := by decide +kernel
theorem dX10_lots_70 : decode cX10_lots 70 = .ok (.lmul, 1) := by decide +kernel
theorem dX10_lots_71 : decode cX10_lots 71 = .ok (.ldc2_w 279, 3) := by decide +kernel
theorem dX10_lots_74 : decode cX10_lots 74 = .ok (.lrem, 1) := by decide +kernel
theorem dX10_lots_75 : decode cX10_lots 75 = .ok (.lstore_n 3, 1) := by decide +kernel
theorem dX10_lots_76 : decode cX10_lots 76 = .ok (.aload_n 0, 1) := by decide +kernel
theorem dX10_lots_77 : decode cX10_lots 77 = .ok (.lload_n 3, 1) := by decide +kernel
theorem dX10_lots_78 : decode cX10_lots 78 = .ok (.invokevirtual 283, 3) := by decide +kernel
theorem dX10_lots_81 : decode cX10_lots 81 = .ok (.iinc 5 1, 3) := by decide +kernel
theorem dX10_lots_84 : decode cX10_lots 84 = .ok (.goto (-24), 3) := by decide +kernel
theorem dX10_lots_87 : decode cX10_lots 87 = .ok (.aload_n 0, 1) := by decide +kernel
theorem dX10_lots_88 : decode cX10_lots 88 = .ok (.iconst 1, 1) := by decide +kernel
theorem dX10_lots_89 : decode cX10_lots 89 = .ok (.invokevirtual 207, 3) := by decide +kernel
theorem dX10_lots_92 : decode cX10_lots 92 = .ok (.ireturn, 1) := by decide +kernel
theorem dX10_asked_0 : decode cX10_asked 0 = .ok (.aload_n 0, 1) := by decide +kernel
theorem dX10_asked_1 : decode cX10_asked 1 = .ok (.getfield 95, 3) := by decide +kernel
theorem dX10_asked_4 : decode cX10_asked 4 = .ok (.ireturn, 1) := by decide +kernel
theorem dX10_upper_0 : decode cX10_upper 0 = .ok (.aload_n 0, 1) := by decide +kernel
theorem dX10_upper_1 : decode cX10_upper 1 = .ok (.getfield 287, 3) := by decide +kernel
theorem dX10_upper_4 : decode cX10_upper 4 = .ok (.lreturn, 1) := by decide +kernel
theorem dX10_lower_0 : decode cX10_lower 0 = .ok (.aload_n 0, 1) := by decide +kernel
theorem dX10_lower_1 : decode cX10_lower 1 = .ok (.getfield 68, 3) := by decide +kernel
theorem dX10_lower_4 : decode cX10_lower 4 = .ok (.lreturn, 1) := by decide +kernel
theorem dX10_count_0 : decode cX10_count 0 = .ok (.iload_n 1, 1) := by decide +kernel
theorem dX10_count_1 : decode cX10_count 1 = .ok (.tableswitch 135 0 10 #[59, 64, 72, 80, 86, 94, 102, 110, 118, 123, 129], 59) := by decide +kernel
theorem dX10_count_60 : decode cX10_count 60 = .ok (.aload_n 0, 1) := by decide +kernel
theorem dX10_count_61 : decode cX10_count 61 = .ok (.getfield 134, 3) := by decide +kernel
theorem dX10_count_64 : decode cX10_count 64 = .ok (.ireturn, 1) := by decide +kernel
theorem dX10_count_65 : decode cX10_count 65 = .ok (.aload_n 0, 1) := by decide +kernel
theorem dX10_count_66 : decode cX10_count 66 = .ok (.getfield 53, 3) := by decide +kernel
theorem dX10_count_69 : decode cX10_count 69 = .ok (.getfield 175, 3) := by decide +kernel
theorem dX10_count_72 : decode cX10_count 72 = .ok (.ireturn, 1) := by decide +kernel
theorem dX10_count_73 : decode cX10_count 73 = .ok (.aload_n 0, 1) := by decide +kernel
theorem dX10_count_74 : decode cX10_count 74 = .ok (.getfield 53, 3) := by decide +kernel
theorem dX10_count_77 : decode cX10_count 77 = .ok (.getfield 191, 3) := by decide +kernel
theorem dX10_count_80 : decode cX10_count 80 = .ok (.ireturn, 1) := by decide +kernel
theorem dX10_count_81 : decode cX10_count 81 = .ok (.aload_n 0, 1) := by decide +kernel
theorem dX10_count_82 : decode cX10_count 82 = .ok (.iconst 1, 1) := by decide +kernel
theorem dX10_count_83 : decode cX10_count 83 = .ok (.invokevirtual 207, 3) := by decide +kernel
theorem dX10_count_86 : decode cX10_count 86 = .ok (.ireturn, 1) := by decide +kernel
theorem dX10_count_87 : decode cX10_count 87 = .ok (.aload_n 0, 1) := by decide +kernel
theorem dX10_count_88 : decode cX10_count 88 = .ok (.getfield 53, 3) := by decide +kernel
theorem dX10_count_91 : decode cX10_count 91 = .ok (.invokevirtual 256, 3) := by decide +kernel
theorem dX10_count_94 : decode cX10_count 94 = .ok (.ireturn, 1) := by decide +kernel
theorem dX10_count_95 : decode cX10_count 95 = .ok (.aload_n 0, 1) := by decide +kernel
theorem dX10_count_96 : decode cX10_count 96 = .ok (.getfield 53, 3) := by decide +kernel
theorem dX10_count_99 : decode cX10_count 99 = .ok (.getfield 290, 3) := by decide +kernel
theorem dX10_count_102 : decode cX10_count 102 = .ok (.ireturn, 1) := by decide +kernel
theorem dX10_count_103 : decode cX10_count 103 = .ok (.aload_n 0, 1) := by decide +kernel
theorem dX10_count_104 : decode cX10_count 104 = .ok (.getfield 11, 3) := by decide +kernel
theorem dX10_count_107 : decode cX10_count 107 = .ok (.invokestatic 293, 3) := by decide +kernel
theorem dX10_count_110 : decode cX10_count 110 = .ok (.ireturn, 1) := by decide +kernel
theorem dX10_count_111 : decode cX10_count 111 = .ok (.aload_n 0, 1) := by decide +kernel
theorem dX10_count_112 : decode cX10_count 112 = .ok (.getfield 16, 3) := by decide +kernel
theorem dX10_count_115 : decode cX10_count 115 = .ok (.invokestatic 293, 3) := by decide +kernel
theorem dX10_count_118 : decode cX10_count 118 = .ok (.ireturn, 1) := by decide +kernel
theorem dX10_count_119 : decode cX10_count 119 = .ok (.aload_n 0, 1) := by decide +kernel
theorem dX10_count_120 : decode cX10_count 120 = .ok (.invokevirtual 297, 3) := by decide +kernel
theorem dX10_count_123 : decode cX10_count 123 = .ok (.ireturn, 1) := by decide +kernel
theorem dX10_count_124 : decode cX10_count 124 = .ok (.aload_n 0, 1) := by decide +kernel
theorem dX10_count_125 : decode cX10_count 125 = .ok (.iconst 1, 1) := by decide +kernel
theorem dX10_count_126 : decode cX10_count 126 = .ok (.invokevirtual 300, 3) := by decide +kernel
theorem dX10_count_129 : decode cX10_count 129 = .ok (.ireturn, 1) := by decide +kernel
theorem dX10_count_130 : decode cX10_count 130 = .ok (.aload_n 0, 1) := by decide +kernel
theorem dX10_count_131 : decode cX10_count 131 = .ok (.iconst 2, 1) := by decide +kernel
theorem dX10_count_132 : decode cX10_count 132 = .ok (.invokevirtual 300, 3) := by decide +kernel
theorem dX10_count_135 : decode cX10_count 135 = .ok (.ireturn, 1) := by decide +kernel
theorem dX10_count_136 : decode cX10_count 136 = .ok (.iconst (-1), 1) := by decide +kernel
theorem dX10_count_137 : decode cX10_count 137 = .ok (.ireturn, 1) := by decide +kernel
theorem dX10_finding_0 : decode cX10_finding 0 = .ok (.aload_n 0, 1) := by decide +kernel
theorem dX10_finding_1 : decode cX10_finding 1 = .ok (.getfield 303, 3) := by decide +kernel
theorem dX10_finding_4 : decode cX10_finding 4 = .ok (.ireturn, 1) := by decide +kernel
theorem dX10_findings_0 : decode cX10_findings 0 = .ok (.iload_n 1, 1) := by decide +kernel
theorem dX10_findings_1 : decode cX10_findings 1 = .ok (.iconst 1, 1) := by decide +kernel
theorem dX10_findings_2 : decode cX10_findings 2 = .ok (.if_icmp .lt 8, 3) := by decide +kernel
theorem dX10_findings_5 : decode cX10_findings 5 = .ok (.iload_n 1, 1) := by decide +kernel
theorem dX10_findings_6 : decode cX10_findings 6 = .ok (.iconst 5, 1) := by decide +kernel
theorem dX10_findings_7 : decode cX10_findings 7 = .ok (.if_icmp .le 5, 3) := by decide +kernel
theorem dX10_findings_10 : decode cX10_findings 10 = .ok (.iconst (-1), 1) := by decide +kernel
theorem dX10_findings_11 : decode cX10_findings 11 = .ok (.ireturn, 1) := by decide +kernel
theorem dX10_findings_12 : decode cX10_findings 12 = .ok (.aload_n 0, 1) := by decide +kernel
theorem dX10_findings_13 : decode cX10_findings 13 = .ok (.getfield 72, 3) := by decide +kernel
theorem dX10_findings_16 : decode cX10_findings 16 = .ok (.iload_n 1, 1) := by decide +kernel
theorem dX10_findings_17 : decode cX10_findings 17 = .ok (.iaload, 1) := by decide +kernel
theorem dX10_findings_18 : decode cX10_findings 18 = .ok (.ireturn, 1) := by decide +kernel
theorem dX10_digest_0 : decode cX10_digest 0 = .ok (.ldc2_w 306, 3) := by decide +kernel
theorem dX10_digest_3 : decode cX10_digest 3 = .ok (.lstore_n 1, 1) := by decide +kernel
theorem dX10_digest_4 : decode cX10_digest 4 = .ok (.iconst 0, 1) := by decide +kernel
theorem dX10_digest_5 : decode cX10_digest 5 = .ok (.istore_n 3, 1) := by decide +kernel
theorem dX10_digest_6 : decode cX10_digest 6 = .ok (.iload_n 3, 1) := by decide +kernel
theorem dX10_digest_7 : decode cX10_digest 7 = .ok (.bipush 11, 2) := by decide +kernel
theorem dX10_digest_9 : decode cX10_digest 9 = .ok (.if_icmp .ge 22, 3) := by decide +kernel
theorem dX10_digest_12 : decode cX10_digest 12 = .ok (.ldc2_w 308, 3) := by decide +kernel
theorem dX10_digest_15 : decode cX10_digest 15 = .ok (.lload_n 1, 1) := by decide +kernel
theorem dX10_digest_16 : decode cX10_digest 16 = .ok (.lmul, 1) := by decide +kernel
theorem dX10_digest_17 : decode cX10_digest 17 = .ok (.aload_n 0, 1) := by decide +kernel
theorem dX10_digest_18 : decode cX10_digest 18 = .ok (.iload_n 3, 1) := by decide +kernel
theorem dX10_digest_19 : decode cX10_digest 19 = .ok (.invokevirtual 310, 3) := by decide +kernel
theorem dX10_digest_22 : decode cX10_digest 22 = .ok (.i2l, 1) := by decide +kernel
theorem dX10_digest_23 : decode cX10_digest 23 = .ok (.ladd, 1) := by decide +kernel
theorem dX10_digest_24 : decode cX10_digest 24 = .ok (.lstore_n 1, 1) := by decide +kernel
theorem dX10_digest_25 : decode cX10_digest 25 = .ok (.iinc 3 1, 3) := by decide +kernel
theorem dX10_digest_28 : decode cX10_digest 28 = .ok (.goto (-22), 3) := by decide +kernel
theorem dX10_digest_31 : decode cX10_digest 31 = .ok (.iconst 0, 1) := by decide +kernel
theorem dX10_digest_32 : decode cX10_digest 32 = .ok (.istore_n 3, 1) := by decide +kernel
theorem dX10_digest_33 : decode cX10_digest 33 = .ok (.iload_n 3, 1) := by decide +kernel
theorem dX10_digest_34 : decode cX10_digest 34 = .ok (.aload_n 0, 1) := by decide +kernel
theorem dX10_digest_35 : decode cX10_digest 35 = .ok (.getfield 134, 3) := by decide +kernel
theorem dX10_digest_38 : decode cX10_digest 38 = .ok (.if_icmp .ge 39, 3) := by decide +kernel
theorem dX10_digest_41 : decode cX10_digest 41 = .ok (.iconst 0, 1) := by decide +kernel
theorem dX10_digest_42 : decode cX10_digest 42 = .ok (.istore 4, 2) := by decide +kernel
theorem dX10_digest_44 : decode cX10_digest 44 = .ok (.iload 4, 2) := by decide +kernel
theorem dX10_digest_46 : decode cX10_digest 46 = .ok (.iconst 5, 1) := by decide +kernel
theorem dX10_digest_47 : decode cX10_digest 47 = .ok (.if_icmp .ge 24, 3) := by decide +kernel
theorem dX10_digest_50 : decode cX10_digest 50 = .ok (.ldc2_w 308, 3) := by decide +kernel
theorem dX10_digest_53 : decode cX10_digest 53 = .ok (.lload_n 1, 1) := by decide +kernel
theorem dX10_digest_54 : decode cX10_digest 54 = .ok (.lmul, 1) := by decide +kernel
theorem dX10_digest_55 : decode cX10_digest 55 = .ok (.aload_n 0, 1) := by decide +kernel
theorem dX10_digest_56 : decode cX10_digest 56 = .ok (.iload_n 3, 1) := by decide +kernel
theorem dX10_digest_57 : decode cX10_digest 57 = .ok (.iload 4, 2) := by decide +kernel
theorem dX10_digest_59 : decode cX10_digest 59 = .ok (.invokevirtual 140, 3) := by decide +kernel
theorem dX10_digest_62 : decode cX10_digest 62 = .ok (.i2l, 1) := by decide +kernel
theorem dX10_digest_63 : decode cX10_digest 63 = .ok (.ladd, 1) := by decide +kernel
theorem dX10_digest_64 : decode cX10_digest 64 = .ok (.lstore_n 1, 1) := by decide +kernel
theorem dX10_digest_65 : decode cX10_digest 65 = .ok (.iinc 4 1, 3) := by decide +kernel
theorem dX10_digest_68 : decode cX10_digest 68 = .ok (.goto (-24), 3) := by decide +kernel
theorem dX10_digest_71 : decode cX10_digest 71 = .ok (.iinc 3 1, 3) := by decide +kernel
theorem dX10_digest_74 : decode cX10_digest 74 = .ok (.goto (-41), 3) := by decide +kernel
theorem dX10_digest_77 : decode cX10_digest 77 = .ok (.iconst 0, 1) := by decide +kernel
theorem dX10_digest_78 : decode cX10_digest 78 = .ok (.istore_n 3, 1) := by decide +kernel
theorem dX10_digest_79 : decode cX10_digest 79 = .ok (.iload_n 3, 1) := by decide +kernel
theorem dX10_digest_80 : decode cX10_digest 80 = .ok (.iconst 3, 1) := by decide +kernel
theorem dX10_digest_81 : decode cX10_digest 81 = .ok (.if_icmp .ge 42, 3) := by decide +kernel
theorem dX10_digest_84 : decode cX10_digest 84 = .ok (.ldc2_w 308, 3) := by decide +kernel
theorem dX10_digest_87 : decode cX10_digest 87 = .ok (.lload_n 1, 1) := by decide +kernel
theorem dX10_digest_88 : decode cX10_digest 88 = .ok (.lmul, 1) := by decide +kernel
theorem dX10_digest_89 : decode cX10_digest 89 = .ok (.aload_n 0, 1) := by decide +kernel
theorem dX10_digest_90 : decode cX10_digest 90 = .ok (.getfield 57, 3) := by decide +kernel
theorem dX10_digest_93 : decode cX10_digest 93 = .ok (.iload_n 3, 1) := by decide +kernel
theorem dX10_digest_94 : decode cX10_digest 94 = .ok (.aaload, 1) := by decide +kernel
theorem dX10_digest_95 : decode cX10_digest 95 = .ok (.getfield 130, 3) := by decide +kernel
theorem dX10_digest_98 : decode cX10_digest 98 = .ok (.ifCond .eq 15, 3) := by decide +kernel
theorem dX10_digest_101 : decode cX10_digest 101 = .ok (.aload_n 0, 1) := by decide +kernel
theorem dX10_digest_102 : decode cX10_digest 102 = .ok (.getfield 57, 3) := by decide +kernel
theorem dX10_digest_105 : decode cX10_digest 105 = .ok (.iload_n 3, 1) := by decide +kernel
theorem dX10_digest_106 : decode cX10_digest 106 = .ok (.aaload, 1) := by decide +kernel
theorem dX10_digest_107 : decode cX10_digest 107 = .ok (.getfield 191, 3) := by decide +kernel
theorem dX10_digest_110 : decode cX10_digest 110 = .ok (.goto 4, 3) := by decide +kernel
theorem dX10_digest_113 : decode cX10_digest 113 = .ok (.iconst (-1), 1) := by decide +kernel
theorem dX10_digest_114 : decode cX10_digest 114 = .ok (.i2l, 1) := by decide +kernel
theorem dX10_digest_115 : decode cX10_digest 115 = .ok (.ladd, 1) := by decide +kernel
theorem dX10_digest_116 : decode cX10_digest 116 = .ok (.lstore_n 1, 1) := by decide +kernel
theorem dX10_digest_117 : decode cX10_digest 117 = .ok (.iinc 3 1, 3) := by decide +kernel
theorem dX10_digest_120 : decode cX10_digest 120 = .ok (.goto (-41), 3) := by decide +kernel
theorem dX10_digest_123 : decode cX10_digest 123 = .ok (.lload_n 1, 1) := by decide +kernel
theorem dX10_digest_124 : decode cX10_digest 124 = .ok (.aload_n 0, 1) := by decide +kernel
theorem dX10_digest_125 : decode cX10_digest 125 = .ok (.getfield 11, 3) := by decide +kernel
theorem dX10_digest_128 : decode cX10_digest 128 = .ok (.invokestatic 313, 3) := by decide +kernel
theorem dX10_digest_131 : decode cX10_digest 131 = .ok (.aload_n 0, 1) := by decide +kernel
theorem dX10_digest_132 : decode cX10_digest 132 = .ok (.getfield 16, 3) := by decide +kernel
theorem dX10_digest_135 : decode cX10_digest 135 = .ok (.invokestatic 313, 3) := by decide +kernel
theorem dX10_digest_138 : decode cX10_digest 138 = .ok (.lreturn, 1) := by decide +kernel
theorem dX10_isRow_0 : decode cX10_isRow 0 = .ok (.iload_n 0, 1) := by decide +kernel
theorem dX10_isRow_1 : decode cX10_isRow 1 = .ok (.ifCond .lt 13, 3) := by decide +kernel
theorem dX10_isRow_4 : decode cX10_isRow 4 = .ok (.iload_n 0, 1) := by decide +kernel
theorem dX10_isRow_5 : decode cX10_isRow 5 = .ok (.bipush 6, 2) := by decide +kernel
theorem dX10_isRow_7 : decode cX10_isRow 7 = .ok (.if_icmp .ge 7, 3) := by decide +kernel
theorem dX10_isRow_10 : decode cX10_isRow 10 = .ok (.iconst 1, 1) := by decide +kernel
theorem dX10_isRow_11 : decode cX10_isRow 11 = .ok (.goto 4, 3) := by decide +kernel
theorem dX10_isRow_14 : decode cX10_isRow 14 = .ok (.iconst 0, 1) := by decide +kernel
theorem dX10_isRow_15 : decode cX10_isRow 15 = .ok (.ireturn, 1) := by decide +kernel
theorem dX10_isText_0 : decode cX10_isText 0 = .ok (.iload_n 0, 1) := by decide +kernel
theorem dX10_isText_1 : decode cX10_isText 1 = .ok (.ifCond .lt 12, 3) := by decide +kernel
theorem dX10_isText_4 : decode cX10_isText 4 = .ok (.iload_n 0, 1) := by decide +kernel
theorem dX10_isText_5 : decode cX10_isText 5 = .ok (.iconst 4, 1) := by decide +kernel
theorem dX10_isText_6 : decode cX10_isText 6 = .ok (.if_icmp .ge 7, 3) := by decide +kernel
theorem dX10_isText_9 : decode cX10_isText 9 = .ok (.iconst 1, 1) := by decide +kernel
theorem dX10_isText_10 : decode cX10_isText 10 = .ok (.goto 4, 3) := by decide +kernel
theorem dX10_isText_13 : decode cX10_isText 13 = .ok (.iconst 0, 1) := by decide +kernel
theorem dX10_isText_14 : decode cX10_isText 14 = .ok (.ireturn, 1) := by decide +kernel
theorem dX10_isKeepingPlace_0 : decode cX10_isKeepingPlace 0 = .ok (.iload_n 0, 1) := by decide +kernel
theorem dX10_isKeepingPlace_1 : decode cX10_isKeepingPlace 1 = .ok (.ifCond .lt 12, 3) := by decide +kernel
theorem dX10_isKeepingPlace_4 : decode cX10_isKeepingPlace 4 = .ok (.iload_n 0, 1) := by decide +kernel
theorem dX10_isKeepingPlace_5 : decode cX10_isKeepingPlace 5 = .ok (.iconst 3, 1) := by decide +kernel
theorem dX10_isKeepingPlace_6 : decode cX10_isKeepingPlace 6 = .ok (.if_icmp .ge 7, 3) := by decide +kernel
theorem dX10_isKeepingPlace_9 : decode cX10_isKeepingPlace 9 = .ok (.iconst 1, 1) := by decide +kernel
theorem dX10_isKeepingPlace_10 : decode cX10_isKeepingPlace 10 = .ok (.goto 4, 3) := by decide +kernel
theorem dX10_isKeepingPlace_13 : decode cX10_isKeepingPlace 13 = .ok (.iconst 0, 1) := by decide +kernel
theorem dX10_isKeepingPlace_14 : decode cX10_isKeepingPlace 14 = .ok (.ireturn, 1) := by decide +kernel
theorem dX10_isLine_0 : decode cX10_isLine 0 = .ok (.iload_n 0, 1) := by decide +kernel
theorem dX10_isLine_1 : decode cX10_isLine 1 = .ok (.iconst 1, 1) := by decide +kernel
theorem dX10_isLine_2 : decode cX10_isLine 2 = .ok (.if_icmp .lt 13, 3) := by decide +kernel
theorem dX10_isLine_5 : decode cX10_isLine 5 = .ok (.iload_n 0, 1) := by decide +kernel
theorem dX10_isLine_6 : decode cX10_isLine 6 = .ok (.bipush 9, 2) := by decide +kernel
theorem dX10_isLine_8 : decode cX10_isLine 8 = .ok (.if_icmp .gt 7, 3) := by decide +kernel
theorem dX10_isLine_11 : decode cX10_isLine 11 = .ok (.iconst 1, 1) := by decide +kernel
theorem dX10_isLine_12 : decode cX10_isLine 12 = .ok (.goto 4, 3) := by decide +kernel
theorem dX10_isLine_15 : decode cX10_isLine 15 = .ok (.iconst 0, 1) := by decide +kernel
theorem dX10_isLine_16 : decode cX10_isLine 16 = .ok (.ireturn, 1) := by decide +kernel
theorem dX10_isTwelfths_0 : decode cX10_isTwelfths 0 = .ok (.iload_n 0, 1) := by decide +kernel
theorem dX10_isTwelfths_1 : decode cX10_isTwelfths 1 = .ok (.ifCond .lt 13, 3) := by decide +kernel
theorem dX10_isTwelfths_4 : decode cX10_isTwelfths 4 = .ok (.iload_n 0, 1) := by decide +kernel
theorem dX10_isTwelfths_5 : decode cX10_isTwelfths 5 = .ok (.bipush 12, 2) := by decide +kernel
theorem dX10_isTwelfths_7 : decode cX10_isTwelfths 7 = .ok (.if_icmp .gt 7, 3) := by decide +kernel
theorem dX10_isTwelfths_10 : decode cX10_isTwelfths 10 = .ok (.iconst 1, 1) := by decide +kernel
theorem dX10_isTwelfths_11 : decode cX10_isTwelfths 11 = .ok (.goto 4, 3) := by decide +kernel
theorem dX10_isTwelfths_14 : decode cX10_isTwelfths 14 = .ok (.iconst 0, 1) := by decide +kernel
theorem dX10_isTwelfths_15 : decode cX10_isTwelfths 15 = .ok (.ireturn, 1) := by decide +kernel
theorem dX10_isRod_0 : decode cX10_isRod 0 = .ok (.iload_n 1, 1) := by decide +kernel
theorem dX10_isRod_1 : decode cX10_isRod 1 = .ok (.ifCond .lt 15, 3) := by decide +kernel
theorem dX10_isRod_4 : decode cX10_isRod 4 = .ok (.iload_n 1, 1) := by decide +kernel
theorem dX10_isRod_5 : decode cX10_isRod 5 = .ok (.aload_n 0, 1) := by decide +kernel
theorem dX10_isRod_6 : decode cX10_isRod 6 = .ok (.getfield 134, 3) := by decide +kernel
theorem dX10_isRod_9 : decode cX10_isRod 9 = .ok (.if_icmp .ge 7, 3) := by decide +kernel
theorem dX10_isRod_12 : decode cX10_isRod 12 = .ok (.iconst 1, 1) := by decide +kernel
theorem dX10_isRod_13 : decode cX10_isRod 13 = .ok (.goto 4, 3) := by decide +kernel
theorem dX10_isRod_16 : decode cX10_isRod 16 = .ok (.iconst 0, 1) := by decide +kernel
theorem dX10_isRod_17 : decode cX10_isRod 17 = .ok (.ireturn, 1) := by decide +kernel
theorem dX10_found_0 : decode cX10_found 0 = .ok (.aload_n 0, 1) := by decide +kernel
theorem dX10_found_1 : decode cX10_found 1 = .ok (.iload_n 1, 1) := by decide +kernel
theorem dX10_found_2 : decode cX10_found 2 = .ok (.putfield 303, 3) := by decide +kernel
theorem dX10_found_5 : decode cX10_found 5 = .ok (.aload_n 0, 1) := by decide +kernel
theorem dX10_found_6 : decode cX10_found 6 = .ok (.getfield 72, 3) := by decide +kernel
theorem dX10_found_9 : decode cX10_found 9 = .ok (.iload_n 1, 1) := by decide +kernel
theorem dX10_found_10 : decode cX10_found 10 = .ok (.dup2, 1) := by decide +kernel
theorem dX10_found_11 : decode cX10_found 11 = .ok (.iaload, 1) := by decide +kernel
theorem dX10_found_12 : decode cX10_found 12 = .ok (.iconst 1, 1) := by decide +kernel
theorem dX10_found_13 : decode cX10_found 13 = .ok (.iadd, 1) := by decide +kernel
theorem dX10_found_14 : decode cX10_found 14 = .ok (.iastore, 1) := by decide +kernel
theorem dX10_found_15 : decode cX10_found 15 = .ok (.bipush (-3), 2) := by decide +kernel
theorem dX10_found_17 : decode cX10_found 17 = .ok (.ireturn, 1) := by decide +kernel
theorem dX10_unfitPlace_0 : decode cX10_unfitPlace 0 = .ok (.aload_n 0, 1) := by decide +kernel
theorem dX10_unfitPlace_1 : decode cX10_unfitPlace 1 = .ok (.invokevirtual 99, 3) := by decide +kernel
theorem dX10_unfitPlace_4 : decode cX10_unfitPlace 4 = .ok (.ifCond .ne 5, 3) := by decide +kernel
theorem dX10_unfitPlace_7 : decode cX10_unfitPlace 7 = .ok (.iconst 1, 1) := by decide +kernel
theorem dX10_unfitPlace_8 : decode cX10_unfitPlace 8 = .ok (.ireturn, 1) := by decide +kernel
theorem dX10_unfitPlace_9 : decode cX10_unfitPlace 9 = .ok (.aload_n 0, 1) := by decide +kernel
theorem dX10_unfitPlace_10 : decode cX10_unfitPlace 10 = .ok (.iload_n 1, 1) := by decide +kernel
theorem dX10_unfitPlace_11 : decode cX10_unfitPlace 11 = .ok (.iconst 1, 1) := by decide +kernel
theorem dX10_unfitPlace_12 : decode cX10_unfitPlace 12 = .ok (.invokevirtual 106, 3) := by decide +kernel
theorem dX10_unfitPlace_15 : decode cX10_unfitPlace 15 = .ok (.ifCond .eq 7, 3) := by decide +kernel
theorem dX10_unfitPlace_18 : decode cX10_unfitPlace 18 = .ok (.iconst 0, 1) := by decide +kernel
theorem dX10_unfitPlace_19 : decode cX10_unfitPlace 19 = .ok (.goto 4, 3) := by decide +kernel
theorem dX10_unfitPlace_22 : decode cX10_unfitPlace 22 = .ok (.iconst 2, 1) := by decide +kernel
theorem dX10_unfitPlace_23 : decode cX10_unfitPlace 23 = .ok (.ireturn, 1) := by decide +kernel
theorem dX10_unfitPairs_0 : decode cX10_unfitPairs 0 = .ok (.aload_n 0, 1) := by decide +kernel
theorem dX10_unfitPairs_1 : decode cX10_unfitPairs 1 = .ok (.invokevirtual 99, 3) := by decide +kernel
theorem dX10_unfitPairs_4 : decode cX10_unfitPairs 4 = .ok (.ifCond .ne 5, 3) := by decide +kernel
theorem dX10_unfitPairs_7 : decode cX10_unfitPairs 7 = .ok (.iconst 1, 1) := by decide +kernel
theorem dX10_unfitPairs_8 : decode cX10_unfitPairs 8 = .ok (.ireturn, 1) := by decide +kernel
theorem dX10_unfitPairs_9 : decode cX10_unfitPairs 9 = .ok (.aload_n 0, 1) := by decide +kernel
theorem dX10_unfitPairs_10 : decode cX10_unfitPairs 10 = .ok (.getfield 103, 3) := by decide +kernel
theorem dX10_unfitPairs_13 : decode cX10_unfitPairs 13 = .ok (.iconst 2, 1) := by decide +kernel
theorem dX10_unfitPairs_14 : decode cX10_unfitPairs 14 = .ok (.irem, 1) := by decide +kernel
theorem dX10_unfitPairs_15 : decode cX10_unfitPairs 15 = .ok (.ifCond .eq 5, 3) := by decide +kernel
theorem dX10_unfitPairs_18 : decode cX10_unfitPairs 18 = .ok (.iconst 5, 1) := by decide +kernel
theorem dX10_unfitPairs_19 : decode cX10_unfitPairs 19 = .ok (.ireturn, 1) := by decide +kernel
theorem dX10_unfitPairs_20 : decode cX10_unfitPairs 20 = .ok (.iconst 0, 1) := by decide +kernel
theorem dX10_unfitPairs_21 : decode cX10_unfitPairs 21 = .ok (.istore_n 1, 1) := by decide +kernel
theorem dX10_unfitPairs_22 : decode cX10_unfitPairs 22 = .ok (.iload_n 1, 1) := by decide +kernel
theorem dX10_unfitPairs_23 : decode cX10_unfitPairs 23 = .ok (.iconst 1, 1) := by decide +kernel
theorem dX10_unfitPairs_24 : decode cX10_unfitPairs 24 = .ok (.iadd, 1) := by decide +kernel
theorem dX10_unfitPairs_25 : decode cX10_unfitPairs 25 = .ok (.aload_n 0, 1) := by decide +kernel
theorem dX10_unfitPairs_26 : decode cX10_unfitPairs 26 = .ok (.getfield 103, 3) := by decide +kernel
theorem dX10_unfitPairs_29 : decode cX10_unfitPairs 29 = .ok (.if_icmp .ge 43, 3) := by decide +kernel
theorem dX10_unfitPairs_32 : decode cX10_unfitPairs 32 = .ok (.aload_n 0, 1) := by decide +kernel
theorem dX10_unfitPairs_33 : decode cX10_unfitPairs 33 = .ok (.getfield 92, 3) := by decide +kernel
theorem dX10_unfitPairs_36 : decode cX10_unfitPairs 36 = .ok (.iload_n 1, 1) := by decide +kernel
theorem dX10_unfitPairs_37 : decode cX10_unfitPairs 37 = .ok (.iconst 1, 1) := by decide +kernel
theorem dX10_unfitPairs_38 : decode cX10_unfitPairs 38 = .ok (.iadd, 1) := by decide +kernel
theorem dX10_unfitPairs_39 : decode cX10_unfitPairs 39 = .ok (.iaload, 1) := by decide +kernel
theorem dX10_unfitPairs_40 : decode cX10_unfitPairs 40 = .ok (.istore_n 2, 1) := by decide +kernel
theorem dX10_unfitPairs_41 : decode cX10_unfitPairs 41 = .ok (.aload_n 0, 1) := by decide +kernel
theorem dX10_unfitPairs_42 : decode cX10_unfitPairs 42 = .ok (.getfield 92, 3) := by decide +kernel
theorem dX10_unfitPairs_45 : decode cX10_unfitPairs 45 = .ok (.iload_n 1, 1) := by decide +kernel
theorem dX10_unfitPairs_46 : decode cX10_unfitPairs 46 = .ok (.iaload, 1) := by decide +kernel
theorem dX10_unfitPairs_47 : decode cX10_unfitPairs 47 = .ok (.invokestatic 159, 3) := by decide +kernel
theorem dX10_unfitPairs_50 : decode cX10_unfitPairs 50 = .ok (.ifCond .eq 14, 3) := by decide +kernel
theorem dX10_unfitPairs_53 : decode cX10_unfitPairs 53 = .ok (.iload_n 2, 1) := by decide +kernel
theorem dX10_unfitPairs_54 : decode cX10_unfitPairs 54 = .ok (.ifCond .lt 10, 3) := by decide +kernel
theorem dX10_unfitPairs_57 : decode cX10_unfitPairs 57 = .ok (.iload_n 2, 1) := by decide +kernel
theorem dX10_unfitPairs_58 : decode cX10_unfitPairs 58 = .ok (.ldc_w 317, 3) := by decide +kernel
theorem dX10_unfitPairs_61 : decode cX10_unfitPairs 61 = .ok (.if_icmp .le 5, 3) := by decide +kernel
theorem dX10_unfitPairs_64 : decode cX10_unfitPairs 64 = .ok (.iconst 3, 1) := by decide +kernel
theorem dX10_unfitPairs_65 : decode cX10_unfitPairs 65 = .ok (.ireturn, 1) := by decide +kernel
theorem dX10_unfitPairs_66 : decode cX10_unfitPairs 66 = .ok (.iinc 1 2, 3) := by decide +kernel
theorem dX10_unfitPairs_69 : decode cX10_unfitPairs 69 = .ok (.goto (-47), 3) := by decide +kernel
theorem dX10_unfitPairs_72 : decode cX10_unfitPairs 72 = .ok (.iconst 0, 1) := by decide +kernel
theorem dX10_unfitPairs_73 : decode cX10_unfitPairs 73 = .ok (.ireturn, 1) := by decide +kernel
theorem dX10_kindByLetter_0 : decode cX10_kindByLetter 0 = .ok (.iconst 0, 1) := by decide +kernel
theorem dX10_kindByLetter_1 : decode cX10_kindByLetter 1 = .ok (.istore_n 1, 1) := by decide +kernel
theorem dX10_kindByLetter_2 : decode cX10_kindByLetter 2 = .ok (.iload_n 1, 1) := by decide +kernel
theorem dX10_kindByLetter_3 : decode cX10_kindByLetter 3 = .ok (.bipush 6, 2) := by decide +kernel
theorem dX10_kindByLetter_5 : decode cX10_kindByLetter 5 = .ok (.if_icmp .ge 20, 3) := by decide +kernel
theorem dX10_kindByLetter_8 : decode cX10_kindByLetter 8 = .ok (.getstatic 318, 3) := by decide +kernel
theorem dX10_kindByLetter_11 : decode cX10_kindByLetter 11 = .ok (.iload_n 1, 1) := by decide +kernel
theorem dX10_kindByLetter_12 : decode cX10_kindByLetter 12 = .ok (.iaload, 1) := by decide +kernel
theorem dX10_kindByLetter_13 : decode cX10_kindByLetter 13 = .ok (.iload_n 0, 1) := by decide +kernel
theorem dX10_kindByLetter_14 : decode cX10_kindByLetter 14 = .ok (.if_icmp .ne 5, 3) := by decide +kernel
theorem dX10_kindByLetter_17 : decode cX10_kindByLetter 17 = .ok (.iload_n 1, 1) := by decide +kernel
theorem dX10_kindByLetter_18 : decode cX10_kindByLetter 18 = .ok (.ireturn, 1) := by decide +kernel
theorem dX10_kindByLetter_19 : decode cX10_kindByLetter 19 = .ok (.iinc 1 1, 3) := by decide +kernel
theorem dX10_kindByLetter_22 : decode cX10_kindByLetter 22 = .ok (.goto (-20), 3) := by decide +kernel
theorem dX10_kindByLetter_25 : decode cX10_kindByLetter 25 = .ok (.bipush (-9), 2) := by decide +kernel
theorem dX10_kindByLetter_27 : decode cX10_kindByLetter 27 = .ok (.ireturn, 1) := by decide +kernel
theorem dX10_isFigure_0 : decode cX10_isFigure 0 = .ok (.iload_n 0, 1) := by decide +kernel
theorem dX10_isFigure_1 : decode cX10_isFigure 1 = .ok (.bipush 48, 2) := by decide +kernel
theorem dX10_isFigure_3 : decode cX10_isFigure 3 = .ok (.if_icmp .lt 13, 3) := by decide +kernel
theorem dX10_isFigure_6 : decode cX10_isFigure 6 = .ok (.iload_n 0, 1) := by decide +kernel
theorem dX10_isFigure_7 : decode cX10_isFigure 7 = .ok (.bipush 58, 2) := by decide +kernel
theorem dX10_isFigure_9 : decode cX10_isFigure 9 = .ok (.if_icmp .ge 7, 3) := by decide +kernel
theorem dX10_isFigure_12 : decode cX10_isFigure 12 = .ok (.iconst 1, 1) := by decide +kernel
theorem dX10_isFigure_13 : decode cX10_isFigure 13 = .ok (.goto 4, 3) := by decide +kernel
theorem dX10_isFigure_16 : decode cX10_isFigure 16 = .ok (.iconst 0, 1) := by decide +kernel
theorem dX10_isFigure_17 : decode cX10_isFigure 17 = .ok (.ireturn, 1) := by decide +kernel
theorem dX10_firstFault_0 : decode cX10_firstFault 0 = .ok (.iconst 0, 1) := by decide +kernel
theorem dX10_firstFault_1 : decode cX10_firstFault 1 = .ok (.istore_n 1, 1) := by decide +kernel
theorem dX10_firstFault_2 : decode cX10_firstFault 2 = .ok (.iconst 0, 1) := by decide +kernel
theorem dX10_firstFault_3 : decode cX10_firstFault 3 = .ok (.istore_n 2, 1) := by decide +kernel
theorem dX10_firstFault_4 : decode cX10_firstFault 4 = .ok (.iconst 0, 1) := by decide +kernel
theorem dX10_firstFault_5 : decode cX10_firstFault 5 = .ok (.istore_n 3, 1) := by decide +kernel
theorem dX10_firstFault_6 : decode cX10_firstFault 6 = .ok (.iload_n 3, 1) := by decide +kernel
theorem dX10_firstFault_7 : decode cX10_firstFault 7 = .ok (.aload_n 0, 1) := by decide +kernel
theorem dX10_firstFault_8 : decode cX10_firstFault 8 = .ok (.getfield 103, 3) := by decide +kernel
theorem dX10_firstFault_11 : decode cX10_firstFault 11 = .ok (.if_icmp .ge 70, 3) := by decide +kernel
theorem dX10_firstFault_14 : decode cX10_firstFault 14 = .ok (.aload_n 0, 1) := by decide +kernel
theorem dX10_firstFault_15 : decode cX10_firstFault 15 = .ok (.getfield 92, 3) := by decide +kernel
theorem dX10_firstFault_18 : decode cX10_firstFault 18 = .ok (.iload_n 3, 1) := by decide +kernel
theorem dX10_firstFault_19 : decode cX10_firstFault 19 = .ok (.iaload, 1) := by decide +kernel
theorem dX10_firstFault_20 : decode cX10_firstFault 20 = .ok (.istore 4, 2) := by decide +kernel
theorem dX10_firstFault_22 : decode cX10_firstFault 22 = .ok (.iload_n 2, 1) := by decide +kernel
theorem dX10_firstFault_23 : decode cX10_firstFault 23 = .ok (.ifCond .le 22, 3) := by decide +kernel
theorem dX10_firstFault_26 : decode cX10_firstFault 26 = .ok (.iload 4, 2) := by decide +kernel
theorem dX10_firstFault_28 : decode cX10_firstFault 28 = .ok (.invokestatic 321, 3) := by decide +kernel
theorem dX10_firstFault_31 : decode cX10_firstFault 31 = .ok (.ifCond .ne 5, 3) := by decide +kernel
theorem dX10_firstFault_34 : decode cX10_firstFault 34 = .ok (.iload_n 3, 1) := by decide +kernel
theorem dX10_firstFault_35 : decode cX10_firstFault 35 = .ok (.ireturn, 1) := by decide +kernel
theorem dX10_firstFault_36 : decode cX10_firstFault 36 = .ok (.iload_n 2, 1) := by decide +kernel
theorem dX10_firstFault_37 : decode cX10_firstFault 37 = .ok (.iconst 1, 1) := by decide +kernel
theorem dX10_firstFault_38 : decode cX10_firstFault 38 = .ok (.iadd, 1) := by decide +kernel
theorem dX10_firstFault_39 : decode cX10_firstFault 39 = .ok (.iconst 3, 1) := by decide +kernel
theorem dX10_firstFault_40 : decode cX10_firstFault 40 = .ok (.irem, 1) := by decide +kernel
theorem dX10_firstFault_41 : decode cX10_firstFault 41 = .ok (.istore_n 2, 1) := by decide +kernel
theorem dX10_firstFault_42 : decode cX10_firstFault 42 = .ok (.goto 33, 3) := by decide +kernel
theorem dX10_firstFault_45 : decode cX10_firstFault 45 = .ok (.iload 4, 2) := by decide +kernel
theorem dX10_firstFault_47 : decode cX10_firstFault 47 = .ok (.bipush 32, 2) := by decide +kernel
theorem dX10_firstFault_49 : decode cX10_firstFault 49 = .ok (.if_icmp .eq 26, 3) := by decide +kernel
theorem dX10_firstFault_52 : decode cX10_firstFault 52 = .ok (.iload_n 1, 1) := by decide +kernel
theorem dX10_firstFault_53 : decode cX10_firstFault 53 = .ok (.bipush 7, 2) := by decide +kernel
theorem dX10_firstFault_55 : decode cX10_firstFault 55 = .ok (.if_icmp .ge 13, 3) := by decide +kernel
theorem dX10_firstFault_58 : decode cX10_firstFault 58 = .ok (.iload 4, 2) := by decide +kernel
theorem dX10_firstFault_60 : decode cX10_firstFault 60 = .ok (.invokestatic 324, 3) := by decide +kernel
theorem dX10_firstFault_63 : decode cX10_firstFault 63 = .ok (.bipush (-9), 2) := by decide +kernel
theorem dX10_firstFault_65 : decode cX10_firstFault 65 = .ok (.if_icmp .ne 5, 3) := by decide +kernel
theorem dX10_firstFault_68 : decode cX10_firstFault 68 = .ok (.iload_n 3, 1) := by decide +kernel
theorem dX10_firstFault_69 : decode cX10_firstFault 69 = .ok (.ireturn, 1) := by decide +kernel
theorem dX10_firstFault_70 : decode cX10_firstFault 70 = .ok (.iinc 1 1, 3) := by decide +kernel
theorem dX10_firstFault_73 : decode cX10_firstFault 73 = .ok (.iconst 1, 1) := by decide +kernel
theorem dX10_firstFault_74 : decode cX10_firstFault 74 = .ok (.istore_n 2, 1) := by decide +kernel
theorem dX10_firstFault_75 : decode cX10_firstFault 75 = .ok (.iinc 3 1, 3) := by decide +kernel
theorem dX10_firstFault_78 : decode cX10_firstFault 78 = .ok (.goto (-72), 3) := by decide +kernel
theorem dX10_firstFault_81 : decode cX10_firstFault 81 = .ok (.iload_n 2, 1) := by decide +kernel
theorem dX10_firstFault_82 : decode cX10_firstFault 82 = .ok (.ifCond .gt 8, 3) := by decide +kernel
theorem dX10_firstFault_85 : decode cX10_firstFault 85 = .ok (.iload_n 1, 1) := by decide +kernel
theorem dX10_firstFault_86 : decode cX10_firstFault 86 = .ok (.iconst 2, 1) := by decide +kernel
theorem dX10_firstFault_87 : decode cX10_firstFault 87 = .ok (.if_icmp .ge 10, 3) := by decide +kernel
theorem dX10_firstFault_90 : decode cX10_firstFault 90 = .ok (.aload_n 0, 1) := by decide +kernel
theorem dX10_firstFault_91 : decode cX10_firstFault 91 = .ok (.getfield 103, 3) := by decide +kernel
theorem dX10_firstFault_94 : decode cX10_firstFault 94 = .ok (.goto 5, 3) := by decide +kernel
theorem dX10_firstFault_97 : decode cX10_firstFault 97 = .ok (.bipush (-9), 2) := by decide +kernel
theorem dX10_firstFault_99 : decode cX10_firstFault 99 = .ok (.ireturn, 1) := by decide +kernel
theorem dX10_fillBox_0 : decode cX10_fillBox 0 = .ok (.iconst 0, 1) := by decide +kernel
theorem dX10_fillBox_1 : decode cX10_fillBox 1 = .ok (.istore_n 2, 1) := by decide +kernel
theorem dX10_fillBox_2 : decode cX10_fillBox 2 = .ok (.iconst 0, 1) := by decide +kernel
theorem dX10_fillBox_3 : decode cX10_fillBox 3 = .ok (.istore_n 3, 1) := by decide +kernel
theorem dX10_fillBox_4 : decode cX10_fillBox 4 = .ok (.iload_n 3, 1) := by decide +kernel
theorem dX10_fillBox_5 : decode cX10_fillBox 5 = .ok (.iconst 2, 1) := by decide +kernel
theorem dX10_fillBox_6 : decode cX10_fillBox 6 = .ok (.iadd, 1) := by decide +kernel
theorem dX10_fillBox_7 : decode cX10_fillBox 7 = .ok (.aload_n 1, 1) := by decide +kernel
theorem dX10_fillBox_8 : decode cX10_fillBox 8 = .ok (.getfield 103, 3) := by decide +kernel
theorem dX10_fillBox_11 : decode cX10_fillBox 11 = .ok (.if_icmp .ge 103, 3) := by decide +kernel
theorem dX10_fillBox_14 : decode cX10_fillBox 14 = .ok (.iload_n 2, 1) := by decide +kernel
theorem dX10_fillBox_15 : decode cX10_fillBox 15 = .ok (.bipush 7, 2) := by decide +kernel
theorem dX10_fillBox_17 : decode cX10_fillBox 17 = .ok (.if_icmp .ge 97, 3) := by decide +kernel
theorem dX10_fillBox_20 : decode cX10_fillBox 20 = .ok (.aload_n 1, 1) := by decide +kernel
theorem dX10_fillBox_21 : decode cX10_fillBox 21 = .ok (.getfield 92, 3) := by decide +kernel
theorem dX10_fillBox_24 : decode cX10_fillBox 24 = .ok (.iload_n 3, 1) := by decide +kernel
theorem dX10_fillBox_25 : decode cX10_fillBox 25 = .ok (.iaload, 1) := by decide +kernel
theorem dX10_fillBox_26 : decode cX10_fillBox 26 = .ok (.invokestatic 324, 3) := by decide +kernel
theorem dX10_fillBox_29 : decode cX10_fillBox 29 = .ok (.istore 4, 2) := by decide +kernel
theorem dX10_fillBox_31 : decode cX10_fillBox 31 = .ok (.iload 4, 2) := by decide +kernel
theorem dX10_fillBox_33 : decode cX10_fillBox 33 = .ok (.bipush (-9), 2) := by decide +kernel
theorem dX10_fillBox_35 : decode cX10_fillBox 35 = .ok (.if_icmp .eq 73, 3) := by decide +kernel
theorem dX10_fillBox_38 : decode cX10_fillBox 38 = .ok (.aload_n 0, 1) := by decide +kernel
theorem dX10_fillBox_39 : decode cX10_fillBox 39 = .ok (.getfield 43, 3) := by decide +kernel
theorem dX10_fillBox_42 : decode cX10_fillBox 42 = .ok (.iload_n 2, 1) := by decide +kernel
theorem dX10_fillBox_43 : decode cX10_fillBox 43 = .ok (.aaload, 1) := by decide +kernel
theorem dX10_fillBox_44 : decode cX10_fillBox 44 = .ok (.iload 4, 2) := by decide +kernel
theorem dX10_fillBox_46 : decode cX10_fillBox 46 = .ok (.putfield 327, 3) := by decide +kernel
theorem dX10_fillBox_49 : decode cX10_fillBox 49 = .ok (.aload_n 0, 1) := by decide +kernel
theorem dX10_fillBox_50 : decode cX10_fillBox 50 = .ok (.getfield 43, 3) := by decide +kernel
theorem dX10_fillBox_53 : decode cX10_fillBox 53 = .ok (.iload_n 2, 1) := by decide +kernel
theorem dX10_fillBox_54 : decode cX10_fillBox 54 = .ok (.aaload, 1) := by decide +kernel
theorem dX10_fillBox_55 : decode cX10_fillBox 55 = .ok (.aload_n 0, 1) := by decide +kernel
theorem dX10_fillBox_56 : decode cX10_fillBox 56 = .ok (.getfield 21, 3) := by decide +kernel
theorem dX10_fillBox_59 : decode cX10_fillBox 59 = .ok (.iload 4, 2) := by decide +kernel
theorem dX10_fillBox_61 : decode cX10_fillBox 61 = .ok (.aaload, 1) := by decide +kernel
theorem dX10_fillBox_62 : decode cX10_fillBox 62 = .ok (.putfield 144, 3) := by decide +kernel
theorem dX10_fillBox_65 : decode cX10_fillBox 65 = .ok (.aload_n 0, 1) := by decide +kernel
theorem dX10_fillBox_66 : decode cX10_fillBox 66 = .ok (.getfield 43, 3) := by decide +kernel
theorem dX10_fillBox_69 : decode cX10_fillBox 69 = .ok (.iload_n 2, 1) := by decide +kernel
theorem dX10_fillBox_70 : decode cX10_fillBox 70 = .ok (.aaload, 1) := by decide +kernel
theorem dX10_fillBox_71 : decode cX10_fillBox 71 = .ok (.aload_n 1, 1) := by decide +kernel
theorem dX10_fillBox_72 : decode cX10_fillBox 72 = .ok (.getfield 92, 3) := by decide +kernel
theorem dX10_fillBox_75 : decode cX10_fillBox 75 = .ok (.iload_n 3, 1) := by decide +kernel
theorem dX10_fillBox_76 : decode cX10_fillBox 76 = .ok (.iconst 1, 1) := by decide +kernel
theorem dX10_fillBox_77 : decode cX10_fillBox 77 = .ok (.iadd, 1) := by decide +kernel
theorem dX10_fillBox_78 : decode cX10_fillBox 78 = .ok (.iaload, 1) := by decide +kernel
theorem dX10_fillBox_79 : decode cX10_fillBox 79 = .ok (.bipush 48, 2) := by decide +kernel
theorem dX10_fillBox_81 : decode cX10_fillBox 81 = .ok (.isub, 1) := by decide +kernel
theorem dX10_fillBox_82 : decode cX10_fillBox 82 = .ok (.putfield 330, 3) := by decide +kernel
theorem dX10_fillBox_85 : decode cX10_fillBox 85 = .ok (.aload_n 0, 1) := by decide +kernel
theorem dX10_fillBox_86 : decode cX10_fillBox 86 = .ok (.getfield 43, 3) := by decide +kernel
theorem dX10_fillBox_89 : decode cX10_fillBox 89 = .ok (.iload_n 2, 1) := by decide +kernel
theorem dX10_fillBox_90 : decode cX10_fillBox 90 = .ok (.aaload, 1) := by decide +kernel
theorem dX10_fillBox_91 : decode cX10_fillBox 91 = .ok (.aload_n 1, 1) := by decide +kernel
theorem dX10_fillBox_92 : decode cX10_fillBox 92 = .ok (.getfield 92, 3) := by decide +kernel
theorem dX10_fillBox_95 : decode cX10_fillBox 95 = .ok (.iload_n 3, 1) := by decide +kernel
theorem dX10_fillBox_96 : decode cX10_fillBox 96 = .ok (.iconst 2, 1) := by decide +kernel
theorem dX10_fillBox_97 : decode cX10_fillBox 97 = .ok (.iadd, 1) := by decide +kernel
theorem dX10_fillBox_98 : decode cX10_fillBox 98 = .ok (.iaload, 1) := by decide +kernel
theorem dX10_fillBox_99 : decode cX10_fillBox 99 = .ok (.bipush 48, 2) := by decide +kernel
theorem dX10_fillBox_101 : decode cX10_fillBox 101 = .ok (.isub, 1) := by decide +kernel
theorem dX10_fillBox_102 : decode cX10_fillBox 102 = .ok (.putfield 238, 3) := by decide +kernel
theorem dX10_fillBox_105 : decode cX10_fillBox 105 = .ok (.iinc 2 1, 3) := by decide +kernel
theorem dX10_fillBox_108 : decode cX10_fillBox 108 = .ok (.iinc 3 1, 3) := by decide +kernel
theorem dX10_fillBox_111 : decode cX10_fillBox 111 = .ok (.goto (-107), 3) := by decide +kernel
theorem dX10_fillBox_114 : decode cX10_fillBox 114 = .ok (.aload_n 0, 1) := by decide +kernel
theorem dX10_fillBox_115 : decode cX10_fillBox 115 = .ok (.iload_n 2, 1) := by decide +kernel
theorem dX10_fillBox_116 : decode cX10_fillBox 116 = .ok (.putfield 134, 3) := by decide +kernel
theorem dX10_fillBox_119 : decode cX10_fillBox 119 = .ok (.return_, 1) := by decide +kernel
theorem dX10_isOfKind_0 : decode cX10_isOfKind 0 = .ok (.iload_n 1, 1) := by decide +kernel
theorem dX10_isOfKind_1 : decode cX10_isOfKind 1 = .ok (.tableswitch 66 0 5 #[39, 41, 46, 51, 56, 61], 39) := by decide +kernel
theorem dX10_isOfKind_40 : decode cX10_isOfKind 40 = .ok (.iconst 1, 1) := by decide +kernel
theorem dX10_isOfKind_41 : decode cX10_isOfKind 41 = .ok (.ireturn, 1) := by decide +kernel
theorem dX10_isOfKind_42 : decode cX10_isOfKind 42 = .ok (.aload_n 0, 1) := by decide +kernel
theorem dX10_isOfKind_43 : decode cX10_isOfKind 43 = .ok (.instanceof 26, 3) := by decide +kernel
theorem dX10_isOfKind_46 : decode cX10_isOfKind 46 = .ok (.ireturn, 1) := by decide +kernel
theorem dX10_isOfKind_47 : decode cX10_isOfKind 47 = .ok (.aload_n 0, 1) := by decide +kernel
theorem dX10_isOfKind_48 : decode cX10_isOfKind 48 = .ok (.instanceof 29, 3) := by decide +kernel
theorem dX10_isOfKind_51 : decode cX10_isOfKind 51 = .ok (.ireturn, 1) := by decide +kernel
theorem dX10_isOfKind_52 : decode cX10_isOfKind 52 = .ok (.aload_n 0, 1) := by decide +kernel
theorem dX10_isOfKind_53 : decode cX10_isOfKind 53 = .ok (.instanceof 32, 3) := by decide +kernel
theorem dX10_isOfKind_56 : decode cX10_isOfKind 56 = .ok (.ireturn, 1) := by decide +kernel
theorem dX10_isOfKind_57 : decode cX10_isOfKind 57 = .ok (.aload_n 0, 1) := by decide +kernel
theorem dX10_isOfKind_58 : decode cX10_isOfKind 58 = .ok (.instanceof 35, 3) := by decide +kernel
theorem dX10_isOfKind_61 : decode cX10_isOfKind 61 = .ok (.ireturn, 1) := by decide +kernel
theorem dX10_isOfKind_62 : decode cX10_isOfKind 62 = .ok (.aload_n 0, 1) := by decide +kernel
theorem dX10_isOfKind_63 : decode cX10_isOfKind 63 = .ok (.instanceof 38, 3) := by decide +kernel
theorem dX10_isOfKind_66 : decode cX10_isOfKind 66 = .ok (.ireturn, 1) := by decide +kernel
theorem dX10_isOfKind_67 : decode cX10_isOfKind 67 = .ok (.iconst 0, 1) := by decide +kernel
theorem dX10_isOfKind_68 : decode cX10_isOfKind 68 = .ok (.ireturn, 1) := by decide +kernel
theorem dX10_digitNow_0 : decode cX10_digitNow 0 = .ok (.aload_n 0, 1) := by decide +kernel
theorem dX10_digitNow_1 : decode cX10_digitNow 1 = .ok (.getfield 53, 3) := by decide +kernel
theorem dX10_digitNow_4 : decode cX10_digitNow 4 = .ok (.iload_n 1, 1) := by decide +kernel
theorem dX10_digitNow_5 : decode cX10_digitNow 5 = .ok (.invokevirtual 333, 3) := by decide +kernel
theorem dX10_digitNow_8 : decode cX10_digitNow 8 = .ok (.ifCond .eq 18, 3) := by decide +kernel
theorem dX10_digitNow_11 : decode cX10_digitNow 11 = .ok (.bipush 9, 2) := by decide +kernel
theorem dX10_digitNow_13 : decode cX10_digitNow 13 = .ok (.aload_n 0, 1) := by decide +kernel
theorem dX10_digitNow_14 : decode cX10_digitNow 14 = .ok (.getfield 43, 3) := by decide +kernel
theorem dX10_digitNow_17 : decode cX10_digitNow 17 = .ok (.iload_n 1, 1) := by decide +kernel
theorem dX10_digitNow_18 : decode cX10_digitNow 18 = .ok (.aaload, 1) := by decide +kernel
theorem dX10_digitNow_19 : decode cX10_digitNow 19 = .ok (.getfield 330, 3) := by decide +kernel
theorem dX10_digitNow_22 : decode cX10_digitNow 22 = .ok (.isub, 1) := by decide +kernel
theorem dX10_digitNow_23 : decode cX10_digitNow 23 = .ok (.goto 12, 3) := by decide +kernel
theorem dX10_digitNow_26 : decode cX10_digitNow 26 = .ok (.aload_n 0, 1) := by decide +kernel
theorem dX10_digitNow_27 : decode cX10_digitNow 27 = .ok (.getfield 43, 3) := by decide +kernel
theorem dX10_digitNow_30 : decode cX10_digitNow 30 = .ok (.iload_n 1, 1) := by decide +kernel
theorem dX10_digitNow_31 : decode cX10_digitNow 31 = .ok (.aaload, 1) := by decide +kernel
theorem dX10_digitNow_32 : decode cX10_digitNow 32 = .ok (.getfield 330, 3) := by decide +kernel
theorem dX10_digitNow_35 : decode cX10_digitNow 35 = .ok (.ireturn, 1) := by decide +kernel
theorem dX10_shownNow_0 : decode cX10_shownNow 0 = .ok (.aload_n 0, 1) := by decide +kernel
theorem dX10_shownNow_1 : decode cX10_shownNow 1 = .ok (.getfield 43, 3) := by decide +kernel
theorem dX10_shownNow_4 : decode cX10_shownNow 4 = .ok (.iload_n 1, 1) := by decide +kernel
theorem dX10_shownNow_5 : decode cX10_shownNow 5 = .ok (.aaload, 1) := by decide +kernel
theorem dX10_shownNow_6 : decode cX10_shownNow 6 = .ok (.getfield 144, 3) := by decide +kernel
theorem dX10_shownNow_9 : decode cX10_shownNow 9 = .ok (.aload_n 0, 1) := by decide +kernel
theorem dX10_shownNow_10 : decode cX10_shownNow 10 = .ok (.iload_n 1, 1) := by decide +kernel
theorem dX10_shownNow_11 : decode cX10_shownNow 11 = .ok (.invokevirtual 188, 3) := by decide +kernel
theorem dX10_shownNow_14 : decode cX10_shownNow 14 = .ok (.aload_n 0, 1) := by decide +kernel
theorem dX10_shownNow_15 : decode cX10_shownNow 15 = .ok (.getfield 43, 3) := by decide +kernel
theorem dX10_shownNow_18 : decode cX10_shownNow 18 = .ok (.iload_n 1, 1) := by decide +kernel
theorem dX10_shownNow_19 : decode cX10_shownNow 19 = .ok (.aaload, 1) := by decide +kernel
theorem dX10_shownNow_20 : decode cX10_shownNow 20 = .ok (.getfield 238, 3) := by decide +kernel
theorem dX10_shownNow_23 : decode cX10_shownNow 23 = .ok (.iload_n 2, 1) := by decide +kernel
theorem dX10_shownNow_24 : decode cX10_shownNow 24 = .ok (.invokevirtual 336, 3) := by decide +kernel
theorem dX10_shownNow_27 : decode cX10_shownNow 27 = .ok (.ireturn, 1) := by decide +kernel
theorem dX10_shownAs_0 : decode cX10_shownAs 0 = .ok (.aload_n 0, 1) := by decide +kernel
theorem dX10_shownAs_1 : decode cX10_shownAs 1 = .ok (.getfield 21, 3) := by decide +kernel
theorem dX10_shownAs_4 : decode cX10_shownAs 4 = .ok (.iload_n 2, 1) := by decide +kernel
theorem dX10_shownAs_5 : decode cX10_shownAs 5 = .ok (.aaload, 1) := by decide +kernel
theorem dX10_shownAs_6 : decode cX10_shownAs 6 = .ok (.aload_n 0, 1) := by decide +kernel
theorem dX10_shownAs_7 : decode cX10_shownAs 7 = .ok (.iload_n 1, 1) := by decide +kernel
theorem dX10_shownAs_8 : decode cX10_shownAs 8 = .ok (.invokevirtual 188, 3) := by decide +kernel
theorem dX10_shownAs_11 : decode cX10_shownAs 11 = .ok (.aload_n 0, 1) := by decide +kernel
theorem dX10_shownAs_12 : decode cX10_shownAs 12 = .ok (.getfield 43, 3) := by decide +kernel
theorem dX10_shownAs_15 : decode cX10_shownAs 15 = .ok (.iload_n 1, 1) := by decide +kernel
theorem dX10_shownAs_16 : decode cX10_shownAs 16 = .ok (.aaload, 1) := by decide +kernel
theorem dX10_shownAs_17 : decode cX10_shownAs 17 = .ok (.getfield 238, 3) := by decide +kernel
theorem dX10_shownAs_20 : decode cX10_shownAs 20 = .ok (.iload_n 3, 1) := by decide +kernel
theorem dX10_shownAs_21 : decode cX10_shownAs 21 = .ok (.invokevirtual 336, 3) := by decide +kernel
theorem dX10_shownAs_24 : decode cX10_shownAs 24 = .ok (.ireturn, 1) := by decide +kernel
theorem dX10_ofRod_0 : decode cX10_ofRod 0 = .ok (.iload_n 2, 1) := by decide +kernel
theorem dX10_ofRod_1 : decode cX10_ofRod 1 = .ok (.tableswitch 66 0 3 #[31, 41, 47, 57], 31) := by decide +kernel
theorem dX10_ofRod_32 : decode cX10_ofRod 32 = .ok (.aload_n 0, 1) := by decide +kernel
theorem dX10_ofRod_33 : decode cX10_ofRod 33 = .ok (.getfield 43, 3) := by decide +kernel
theorem dX10_ofRod_36 : decode cX10_ofRod 36 = .ok (.iload_n 1, 1) := by decide +kernel
theorem dX10_ofRod_37 : decode cX10_ofRod 37 = .ok (.aaload, 1) := by decide +kernel
theorem dX10_ofRod_38 : decode cX10_ofRod 38 = .ok (.getfield 327, 3) := by decide +kernel
theorem dX10_ofRod_41 : decode cX10_ofRod 41 = .ok (.ireturn, 1) := by decide +kernel
theorem dX10_ofRod_42 : decode cX10_ofRod 42 = .ok (.aload_n 0, 1) := by decide +kernel
theorem dX10_ofRod_43 : decode cX10_ofRod 43 = .ok (.iload_n 1, 1) := by decide +kernel
theorem dX10_ofRod_44 : decode cX10_ofRod 44 = .ok (.invokevirtual 188, 3) := by decide +kernel
theorem dX10_ofRod_47 : decode cX10_ofRod 47 = .ok (.ireturn, 1) := by decide +kernel
theorem dX10_ofRod_48 : decode cX10_ofRod 48 = .ok (.aload_n 0, 1) := by decide +kernel
theorem dX10_ofRod_49 : decode cX10_ofRod 49 = .ok (.getfield 43, 3) := by decide +kernel
theorem dX10_ofRod_52 : decode cX10_ofRod 52 = .ok (.iload_n 1, 1) := by decide +kernel
theorem dX10_ofRod_53 : decode cX10_ofRod 53 = .ok (.aaload, 1) := by decide +kernel
theorem dX10_ofRod_54 : decode cX10_ofRod 54 = .ok (.getfield 238, 3) := by decide +kernel
theorem dX10_ofRod_57 : decode cX10_ofRod 57 = .ok (.ireturn, 1) := by decide +kernel
theorem dX10_ofRod_58 : decode cX10_ofRod 58 = .ok (.aload_n 0, 1) := by decide +kernel
theorem dX10_ofRod_59 : decode cX10_ofRod 59 = .ok (.getfield 53, 3) := by decide +kernel
theorem dX10_ofRod_62 : decode cX10_ofRod 62 = .ok (.iload_n 1, 1) := by decide +kernel
theorem dX10_ofRod_63 : decode cX10_ofRod 63 = .ok (.invokevirtual 165, 3) := by decide +kernel
theorem dX10_ofRod_66 : decode cX10_ofRod 66 = .ok (.ireturn, 1) := by decide +kernel
theorem dX10_ofRod_67 : decode cX10_ofRod 67 = .ok (.aload_n 0, 1) := by decide +kernel
theorem dX10_ofRod_68 : decode cX10_ofRod 68 = .ok (.getfield 53, 3) := by decide +kernel
theorem dX10_ofRod_71 : decode cX10_ofRod 71 = .ok (.iload_n 1, 1) := by decide +kernel
theorem dX10_ofRod_72 : decode cX10_ofRod 72 = .ok (.invokevirtual 333, 3) := by decide +kernel
theorem dX10_ofRod_75 : decode cX10_ofRod 75 = .ok (.ifCond .eq 7, 3) := by decide +kernel
theorem dX10_ofRod_78 : decode cX10_ofRod 78 = .ok (.iconst 1, 1) := by decide +kernel
theorem dX10_ofRod_79 : decode cX10_ofRod 79 = .ok (.goto 4, 3) := by decide +kernel
theorem dX10_ofRod_82 : decode cX10_ofRod 82 = .ok (.iconst 0, 1) := by decide +kernel
theorem dX10_ofRod_83 : decode cX10_ofRod 83 = .ok (.ireturn, 1) := by decide +kernel
theorem dX10_linesApart_0 : decode cX10_linesApart 0 = .ok (.iconst 0, 1) := by decide +kernel
theorem dX10_linesApart_1 : decode cX10_linesApart 1 = .ok (.istore 5, 2) := by decide +kernel
theorem dX10_linesApart_3 : decode cX10_linesApart 3 = .ok (.iconst 1, 1) := by decide +kernel
theorem dX10_linesApart_4 : decode cX10_linesApart 4 = .ok (.istore 6, 2) := by decide +kernel
theorem dX10_linesApart_6 : decode cX10_linesApart 6 = .ok (.iload 6, 2) := by decide +kernel
theorem dX10_linesApart_8 : decode cX10_linesApart 8 = .ok (.bipush 9, 2) := by decide +kernel
theorem dX10_linesApart_10 : decode cX10_linesApart 10 = .ok (.if_icmp .gt 49, 3) := by decide +kernel
theorem dX10_linesApart_13 : decode cX10_linesApart 13 = .ok (.aload_n 0, 1) := by decide +kernel
theorem dX10_linesApart_14 : decode cX10_linesApart 14 = .ok (.iload_n 1, 1) := by decide +kernel
theorem dX10_linesApart_15 : decode cX10_linesApart 15 = .ok (.iload 6, 2) := by decide +kernel
theorem dX10_linesApart_17 : decode cX10_linesApart 17 = .ok (.invokevirtual 162, 3) := by decide +kernel
theorem dX10_linesApart_20 : decode cX10_linesApart 20 = .ok (.aload_n 0, 1) := by decide +kernel
theorem dX10_linesApart_21 : decode cX10_linesApart 21 = .ok (.iload_n 1, 1) := by decide +kernel
theorem dX10_linesApart_22 : decode cX10_linesApart 22 = .ok (.iload_n 2, 1) := by decide +kernel
theorem dX10_linesApart_23 : decode cX10_linesApart 23 = .ok (.iload 6, 2) := by decide +kernel
theorem dX10_linesApart_25 : decode cX10_linesApart 25 = .ok (.invokevirtual 339, 3) := by decide +kernel
theorem dX10_linesApart_28 : decode cX10_linesApart 28 = .ok (.isub, 1) := by decide +kernel
theorem dX10_linesApart_29 : decode cX10_linesApart 29 = .ok (.istore 7, 2) := by decide +kernel
theorem dX10_linesApart_31 : decode cX10_linesApart 31 = .ok (.iload_n 3, 1) := by decide +kernel
theorem dX10_linesApart_32 : decode cX10_linesApart 32 = .ok (.ifCond .eq 8, 3) := by decide +kernel
theorem dX10_linesApart_35 : decode cX10_linesApart 35 = .ok (.iload 7, 2) := by decide +kernel
theorem dX10_linesApart_37 : decode cX10_linesApart 37 = .ok (.ifCond .lt 13, 3) := by decide +kernel
theorem dX10_linesApart_40 : decode cX10_linesApart 40 = .ok (.iload 4, 2) := by decide +kernel
theorem dX10_linesApart_42 : decode cX10_linesApart 42 = .ok (.ifCond .eq 11, 3) := by decide +kernel
theorem dX10_linesApart_45 : decode cX10_linesApart 45 = .ok (.iload 7, 2) := by decide +kernel
theorem dX10_linesApart_47 : decode cX10_linesApart 47 = .ok (.ifCond .le 6, 3) := by decide +kernel
theorem dX10_linesApart_50 : decode cX10_linesApart 50 = .ok (.iinc 5 1, 3) := by decide +kernel
theorem dX10_linesApart_53 : decode cX10_linesApart 53 = .ok (.iinc 6 1, 3) := by decide +kernel
theorem dX10_linesApart_56 : decode cX10_linesApart 56 = .ok (.goto (-50), 3) := by decide +kernel
theorem dX10_linesApart_59 : decode cX10_linesApart 59 = .ok (.iload 5, 2) := by decide +kernel
theorem dX10_linesApart_61 : decode cX10_linesApart 61 = .ok (.ireturn, 1) := by decide +kernel
theorem dX10_slidBy_0 : decode cX10_slidBy 0 = .ok (.aload_n 0, 1) := by decide +kernel
theorem dX10_slidBy_1 : decode cX10_slidBy 1 = .ok (.getfield 43, 3) := by decide +kernel
theorem dX10_slidBy_4 : decode cX10_slidBy 4 = .ok (.iload_n 1, 1) := by decide +kernel
theorem dX10_slidBy_5 : decode cX10_slidBy 5 = .ok (.aaload, 1) := by decide +kernel
theorem dX10_slidBy_6 : decode cX10_slidBy 6 = .ok (.getfield 238, 3) := by decide +kernel
theorem dX10_slidBy_9 : decode cX10_slidBy 9 = .ok (.istore_n 2, 1) := by decide +kernel
theorem dX10_slidBy_10 : decode cX10_slidBy 10 = .ok (.iload_n 2, 1) := by decide +kernel
theorem dX10_slidBy_11 : decode cX10_slidBy 11 = .ok (.invokestatic 159, 3) := by decide +kernel
theorem dX10_slidBy_14 : decode cX10_slidBy 14 = .ok (.ifCond .eq 20, 3) := by decide +kernel
theorem dX10_slidBy_17 : decode cX10_slidBy 17 = .ok (.aload_n 0, 1) := by decide +kernel
theorem dX10_slidBy_18 : decode cX10_slidBy 18 = .ok (.iload_n 1, 1) := by decide +kernel
theorem dX10_slidBy_19 : decode cX10_slidBy 19 = .ok (.iload_n 2, 1) := by decide +kernel
theorem dX10_slidBy_20 : decode cX10_slidBy 20 = .ok (.invokevirtual 162, 3) := by decide +kernel
theorem dX10_slidBy_23 : decode cX10_slidBy 23 = .ok (.aload_n 0, 1) := by decide +kernel
theorem dX10_slidBy_24 : decode cX10_slidBy 24 = .ok (.iload_n 1, 1) := by decide +kernel
theorem dX10_slidBy_25 : decode cX10_slidBy 25 = .ok (.iconst 0, 1) := by decide +kernel
theorem dX10_slidBy_26 : decode cX10_slidBy 26 = .ok (.iload_n 2, 1) := by decide +kernel
theorem dX10_slidBy_27 : decode cX10_slidBy 27 = .ok (.invokevirtual 339, 3) := by decide +kernel
theorem dX10_slidBy_30 : decode cX10_slidBy 30 = .ok (.isub, 1) := by decide +kernel
theorem dX10_slidBy_31 : decode cX10_slidBy 31 = .ok (.goto 4, 3) := by decide +kernel
theorem dX10_slidBy_34 : decode cX10_slidBy 34 = .ok (.iconst 0, 1) := by decide +kernel
theorem dX10_slidBy_35 : decode cX10_slidBy 35 = .ok (.ireturn, 1) := by decide +kernel
theorem dX10_readOff_0 : decode cX10_readOff 0 = .ok (.aload_n 0, 1) := by decide +kernel
theorem dX10_readOff_1 : decode cX10_readOff 1 = .ok (.bipush (-9), 2) := by decide +kernel
theorem dX10_readOff_3 : decode cX10_readOff 3 = .ok (.iconst 0, 1) := by decide +kernel
theorem dX10_readOff_4 : decode cX10_readOff 4 = .ok (.iload_n 1, 1) := by decide +kernel
theorem dX10_readOff_5 : decode cX10_readOff 5 = .ok (.invokevirtual 342, 3) := by decide +kernel
theorem dX10_readOff_8 : decode cX10_readOff 8 = .ok (.ireturn, 1) := by decide +kernel
theorem dX10_readWith_0 : decode cX10_readWith 0 = .ok (.iconst 0, 1) := by decide +kernel
theorem dX10_readWith_1 : decode cX10_readWith 1 = .ok (.istore 4, 2) := by decide +kernel
theorem dX10_readWith_3 : decode cX10_readWith 3 = .ok (.iconst 0, 1) := by decide +kernel
theorem dX10_readWith_4 : decode cX10_readWith 4 = .ok (.istore 5, 2) := by decide +kernel
theorem dX10_readWith_6 : decode cX10_readWith 6 = .ok (.iload 5, 2) := by decide +kernel
theorem dX10_readWith_8 : decode cX10_readWith 8 = .ok (.aload_n 0, 1) := by decide +kernel
theorem dX10_readWith_9 : decode cX10_readWith 9 = .ok (.getfield 53, 3) := by decide +kernel
theorem dX10_readWith_12 : decode cX10_readWith 12 = .ok (.getfield 175, 3) := by decide +kernel
theorem dX10_readWith_15 : decode cX10_readWith 15 = .ok (.if_icmp .ge 76, 3) := by decide +kernel
theorem dX10_readWith_18 : decode cX10_readWith 18 = .ok (.aload_n 0, 1) := by decide +kernel
theorem dX10_readWith_19 : decode cX10_readWith 19 = .ok (.getfield 43, 3) := by decide +kernel
theorem dX10_readWith_22 : decode cX10_readWith 22 = .ok (.aload_n 0, 1) := by decide +kernel
theorem dX10_readWith_23 : decode cX10_readWith 23 = .ok (.getfield 53, 3) := by decide +kernel
theorem dX10_readWith_26 : decode cX10_readWith 26 = .ok (.getfield 185, 3) := by decide +kernel
theorem dX10_readWith_29 : decode cX10_readWith 29 = .ok (.iload 5, 2) := by decide +kernel
theorem dX10_readWith_31 : decode cX10_readWith 31 = .ok (.iaload, 1) := by decide +kernel
theorem dX10_readWith_32 : decode cX10_readWith 32 = .ok (.aaload, 1) := by decide +kernel
theorem dX10_readWith_33 : decode cX10_readWith 33 = .ok (.astore 6, 2) := by decide +kernel
theorem dX10_readWith_35 : decode cX10_readWith 35 = .ok (.iload 5, 2) := by decide +kernel
theorem dX10_readWith_37 : decode cX10_readWith 37 = .ok (.iload_n 1, 1) := by decide +kernel
theorem dX10_readWith_38 : decode cX10_readWith 38 = .ok (.if_icmp .ne 7, 3) := by decide +kernel
theorem dX10_readWith_41 : decode cX10_readWith 41 = .ok (.iload_n 2, 1) := by decide +kernel
theorem dX10_readWith_42 : decode cX10_readWith 42 = .ok (.goto 17, 3) := by decide +kernel
theorem dX10_readWith_45 : decode cX10_readWith 45 = .ok (.aload_n 0, 1) := by decide +kernel
theorem dX10_readWith_46 : decode cX10_readWith 46 = .ok (.aload_n 0, 1) := by decide +kernel
theorem dX10_readWith_47 : decode cX10_readWith 47 = .ok (.getfield 53, 3) := by decide +kernel
theorem dX10_readWith_50 : decode cX10_readWith 50 = .ok (.getfield 185, 3) := by decide +kernel
theorem dX10_readWith_53 : decode cX10_readWith 53 = .ok (.iload 5, 2) := by decide +kernel
theorem dX10_readWith_55 : decode cX10_readWith 55 = .ok (.iaload, 1) := by decide +kernel
theorem dX10_readWith_56 : decode cX10_readWith 56 = .ok (.invokevirtual 188, 3) := by decide +kernel
theorem dX10_readWith_59 : decode cX10_readWith 59 = .ok (.istore 7, 2) := by decide +kernel
theorem dX10_readWith_61 : decode cX10_readWith 61 = .ok (.bipush 10, 2) := by decide +kernel
theorem dX10_readWith_63 : decode cX10_readWith 63 = .ok (.iload 4, 2) := by decide +kernel
theorem dX10_readWith_65 : decode cX10_readWith 65 = .ok (.imul, 1) := by decide +kernel
theorem dX10_readWith_66 : decode cX10_readWith 66 = .ok (.aload 6, 2) := by decide +kernel
theorem dX10_readWith_68 : decode cX10_readWith 68 = .ok (.getfield 144, 3) := by decide +kernel
theorem dX10_readWith_71 : decode cX10_readWith 71 = .ok (.iload 7, 2) := by decide +kernel
theorem dX10_readWith_73 : decode cX10_readWith 73 = .ok (.aload 6, 2) := by decide +kernel
theorem dX10_readWith_75 : decode cX10_readWith 75 = .ok (.getfield 238, 3) := by decide +kernel
theorem dX10_readWith_78 : decode cX10_readWith 78 = .ok (.iload_n 3, 1) := by decide +kernel
theorem dX10_readWith_79 : decode cX10_readWith 79 = .ok (.invokevirtual 336, 3) := by decide +kernel
theorem dX10_readWith_82 : decode cX10_readWith 82 = .ok (.iadd, 1) := by decide +kernel
theorem dX10_readWith_83 : decode cX10_readWith 83 = .ok (.istore 4, 2) := by decide +kernel
theorem dX10_readWith_85 : decode cX10_readWith 85 = .ok (.iinc 5 1, 3) := by decide +kernel
theorem dX10_readWith_88 : decode cX10_readWith 88 = .ok (.goto (-82), 3) := by decide +kernel
theorem dX10_readWith_91 : decode cX10_readWith 91 = .ok (.iload 4, 2) := by decide +kernel
theorem dX10_readWith_93 : decode cX10_readWith 93 = .ok (.ireturn, 1) := by decide +kernel
theorem dX10_wasReadWith_0 : decode cX10_wasReadWith 0 = .ok (.iconst 0, 1) := by decide +kernel
theorem dX10_wasReadWith_1 : decode cX10_wasReadWith 1 = .ok (.istore 4, 2) := by decide +kernel
theorem dX10_wasReadWith_3 : decode cX10_wasReadWith 3 = .ok (.iload 4, 2) := by decide +kernel
theorem dX10_wasReadWith_5 : decode cX10_wasReadWith 5 = .ok (.iconst 1, 1) := by decide +kernel
theorem dX10_wasReadWith_6 : decode cX10_wasReadWith 6 = .ok (.iadd, 1) := by decide +kernel
theorem dX10_wasReadWith_7 : decode cX10_wasReadWith 7 = .ok (.aload_n 3, 1) := by decide +kernel
theorem dX10_wasReadWith_8 : decode cX10_wasReadWith 8 = .ok (.getfield 103, 3) := by decide +kernel
theorem dX10_wasReadWith_11 : decode cX10_wasReadWith 11 = .ok (.if_icmp .ge 36, 3) := by decide +kernel
theorem dX10_wasReadWith_14 : decode cX10_wasReadWith 14 = .ok (.aload_n 0, 1) := by decide +kernel
theorem dX10_wasReadWith_15 : decode cX10_wasReadWith 15 = .ok (.iload_n 1, 1) := by decide +kernel
theorem dX10_wasReadWith_16 : decode cX10_wasReadWith 16 = .ok (.iload_n 2, 1) := by decide +kernel
theorem dX10_wasReadWith_17 : decode cX10_wasReadWith 17 = .ok (.aload_n 3, 1) := by decide +kernel
theorem dX10_wasReadWith_18 : decode cX10_wasReadWith 18 = .ok (.getfield 92, 3) := by decide +kernel
theorem dX10_wasReadWith_21 : decode cX10_wasReadWith 21 = .ok (.iload 4, 2) := by decide +kernel
theorem dX10_wasReadWith_23 : decode cX10_wasReadWith 23 = .ok (.iaload, 1) := by decide +kernel
theorem dX10_wasReadWith_24 : decode cX10_wasReadWith 24 = .ok (.invokevirtual 342, 3) := by decide +kernel
theorem dX10_wasReadWith_27 : decode cX10_wasReadWith 27 = .ok (.aload_n 3, 1) := by decide +kernel
theorem dX10_wasReadWith_28 : decode cX10_wasReadWith 28 = .ok (.getfield 92, 3) := by decide +kernel
theorem dX10_wasReadWith_31 : decode cX10_wasReadWith 31 = .ok (.iload 4, 2) := by decide +kernel
theorem dX10_wasReadWith_33 : decode cX10_wasReadWith 33 = .ok (.iconst 1, 1) := by decide +kernel
theorem dX10_wasReadWith_34 : decode cX10_wasReadWith 34 = .ok (.iadd, 1) := by decide +kernel
theorem dX10_wasReadWith_35 : decode cX10_wasReadWith 35 = .ok (.iaload, 1) := by decide +kernel
theorem dX10_wasReadWith_36 : decode cX10_wasReadWith 36 = .ok (.if_icmp .eq 5, 3) := by decide +kernel
theorem dX10_wasReadWith_39 : decode cX10_wasReadWith 39 = .ok (.iconst 0, 1) := by decide +kernel
theorem dX10_wasReadWith_40 : decode cX10_wasReadWith 40 = .ok (.ireturn, 1) := by decide +kernel
theorem dX10_wasReadWith_41 : decode cX10_wasReadWith 41 = .ok (.iinc 4 2, 3) := by decide +kernel
theorem dX10_wasReadWith_44 : decode cX10_wasReadWith 44 = .ok (.goto (-41), 3) := by decide +kernel
theorem dX10_wasReadWith_47 : decode cX10_wasReadWith 47 = .ok (.iconst 1, 1) := by decide +kernel
theorem dX10_wasReadWith_48 : decode cX10_wasReadWith 48 = .ok (.ireturn, 1) := by decide +kernel
theorem dX10_rightBy_0 : decode cX10_rightBy 0 = .ok (.iconst 0, 1) := by decide +kernel
theorem dX10_rightBy_1 : decode cX10_rightBy 1 = .ok (.istore_n 2, 1) := by decide +kernel
theorem dX10_rightBy_2 : decode cX10_rightBy 2 = .ok (.iconst 0, 1) := by decide +kernel
theorem dX10_rightBy_3 : decode cX10_rightBy 3 = .ok (.istore_n 3, 1) := by decide +kernel
theorem dX10_rightBy_4 : decode cX10_rightBy 4 = .ok (.iload_n 3, 1) := by decide +kernel
theorem dX10_rightBy_5 : decode cX10_rightBy 5 = .ok (.aload_n 0, 1) := by decide +kernel
theorem dX10_rightBy_6 : decode cX10_rightBy 6 = .ok (.getfield 53, 3) := by decide +kernel
theorem dX10_rightBy_9 : decode cX10_rightBy 9 = .ok (.getfield 175, 3) := by decide +kernel
theorem dX10_rightBy_12 : decode cX10_rightBy 12 = .ok (.if_icmp .ge 28, 3) := by decide +kernel
theorem dX10_rightBy_15 : decode cX10_rightBy 15 = .ok (.bipush 10, 2) := by decide +kernel
theorem dX10_rightBy_17 : decode cX10_rightBy 17 = .ok (.iload_n 2, 1) := by decide +kernel
theorem dX10_rightBy_18 : decode cX10_rightBy 18 = .ok (.imul, 1) := by decide +kernel
theorem dX10_rightBy_19 : decode cX10_rightBy 19 = .ok (.aload_n 0, 1) := by decide +kernel
theorem dX10_rightBy_20 : decode cX10_rightBy 20 = .ok (.aload_n 0, 1) := by decide +kernel
theorem dX10_rightBy_21 : decode cX10_rightBy 21 = .ok (.getfield 53, 3) := by decide +kernel
theorem dX10_rightBy_24 : decode cX10_rightBy 24 = .ok (.getfield 185, 3) := by decide +kernel
theorem dX10_rightBy_27 : decode cX10_rightBy 27 = .ok (.iload_n 3, 1) := by decide +kernel
theorem dX10_rightBy_28 : decode cX10_rightBy 28 = .ok (.iaload, 1) := by decide +kernel
theorem dX10_rightBy_29 : decode cX10_rightBy 29 = .ok (.invokevirtual 188, 3) := by decide +kernel
theorem dX10_rightBy_32 : decode cX10_rightBy 32 = .ok (.iadd, 1) := by decide +kernel
theorem dX10_rightBy_33 : decode cX10_rightBy 33 = .ok (.istore_n 2, 1) := by decide +kernel
theorem dX10_rightBy_34 : decode cX10_rightBy 34 = .ok (.iinc 3 1, 3) := by decide +kernel
theorem dX10_rightBy_37 : decode cX10_rightBy 37 = .ok (.goto (-33), 3) := by decide +kernel
theorem dX10_rightBy_40 : decode cX10_rightBy 40 = .ok (.iload_n 2, 1) := by decide +kernel
theorem dX10_rightBy_41 : decode cX10_rightBy 41 = .ok (.iload_n 1, 1) := by decide +kernel
theorem dX10_rightBy_42 : decode cX10_rightBy 42 = .ok (.imul, 1) := by decide +kernel
theorem dX10_rightBy_43 : decode cX10_rightBy 43 = .ok (.ireturn, 1) := by decide +kernel
theorem dX10_readOfLeft_0 : decode cX10_readOfLeft 0 = .ok (.iconst 0, 1) := by decide +kernel
theorem dX10_readOfLeft_1 : decode cX10_readOfLeft 1 = .ok (.istore_n 3, 1) := by decide +kernel
theorem dX10_readOfLeft_2 : decode cX10_readOfLeft 2 = .ok (.iconst 0, 1) := by decide +kernel
theorem dX10_readOfLeft_3 : decode cX10_readOfLeft 3 = .ok (.istore 4, 2) := by decide +kernel
theorem dX10_readOfLeft_5 : decode cX10_readOfLeft 5 = .ok (.iload 4, 2) := by decide +kernel
theorem dX10_readOfLeft_7 : decode cX10_readOfLeft 7 = .ok (.aload_n 0, 1) := by decide +kernel
theorem dX10_readOfLeft_8 : decode cX10_readOfLeft 8 = .ok (.getfield 53, 3) := by decide +kernel
theorem dX10_readOfLeft_11 : decode cX10_readOfLeft 11 = .ok (.getfield 175, 3) := by decide +kernel
theorem dX10_readOfLeft_14 : decode cX10_readOfLeft 14 = .ok (.if_icmp .ge 44, 3) := by decide +kernel
theorem dX10_readOfLeft_17 : decode cX10_readOfLeft 17 = .ok (.bipush 10, 2) := by decide +kernel
theorem dX10_readOfLeft_19 : decode cX10_readOfLeft 19 = .ok (.iload_n 3, 1) := by decide +kernel
theorem dX10_readOfLeft_20 : decode cX10_readOfLeft 20 = .ok (.imul, 1) := by decide +kernel
theorem dX10_readOfLeft_21 : decode cX10_readOfLeft 21 = .ok (.iload_n 2, 1) := by decide +kernel
theorem dX10_readOfLeft_22 : decode cX10_readOfLeft 22 = .ok (.iload 4, 2) := by decide +kernel
theorem dX10_readOfLeft_24 : decode cX10_readOfLeft 24 = .ok (.ishr, 1) := by decide +kernel
theorem dX10_readOfLeft_25 : decode cX10_readOfLeft 25 = .ok (.iconst 1, 1) := by decide +kernel
theorem dX10_readOfLeft_26 : decode cX10_readOfLeft 26 = .ok (.iand, 1) := by decide +kernel
theorem dX10_readOfLeft_27 : decode cX10_readOfLeft 27 = .ok (.iconst 1, 1) := by decide +kernel
theorem dX10_readOfLeft_28 : decode cX10_readOfLeft 28 = .ok (.if_icmp .ne 21, 3) := by decide +kernel
theorem dX10_readOfLeft_31 : decode cX10_readOfLeft 31 = .ok (.aload_n 0, 1) := by decide +kernel
theorem dX10_readOfLeft_32 : decode cX10_readOfLeft 32 = .ok (.aload_n 0, 1) := by decide +kernel
theorem dX10_readOfLeft_33 : decode cX10_readOfLeft 33 = .ok (.getfield 53, 3) := by decide +kernel
theorem dX10_readOfLeft_36 : decode cX10_readOfLeft 36 = .ok (.getfield 185, 3) := by decide +kernel
theorem dX10_readOfLeft_39 : decode cX10_readOfLeft 39 = .ok (.iload 4, 2) := by decide +kernel
theorem dX10_readOfLeft_41 : decode cX10_readOfLeft 41 = .ok (.iaload, 1) := by decide +kernel
theorem dX10_readOfLeft_42 : decode cX10_readOfLeft 42 = .ok (.iload_n 1, 1) := by decide +kernel
theorem dX10_readOfLeft_43 : decode cX10_readOfLeft 43 = .ok (.invokevirtual 162, 3) := by decide +kernel
theorem dX10_readOfLeft_46 : decode cX10_readOfLeft 46 = .ok (.goto 4, 3) := by decide +kernel
theorem dX10_readOfLeft_49 : decode cX10_readOfLeft 49 = .ok (.iconst 0, 1) := by decide +kernel
theorem dX10_readOfLeft_50 : decode cX10_readOfLeft 50 = .ok (.iadd, 1) := by decide +kernel
theorem dX10_readOfLeft_51 : decode cX10_readOfLeft 51 = .ok (.istore_n 3, 1) := by decide +kernel
theorem dX10_readOfLeft_52 : decode cX10_readOfLeft 52 = .ok (.iinc 4 1, 3) := by decide +kernel
theorem dX10_readOfLeft_55 : decode cX10_readOfLeft 55 = .ok (.goto (-50), 3) := by decide +kernel
theorem dX10_readOfLeft_58 : decode cX10_readOfLeft 58 = .ok (.iload_n 3, 1) := by decide +kernel
theorem dX10_readOfLeft_59 : decode cX10_readOfLeft 59 = .ok (.ireturn, 1) := by decide +kernel
theorem dX10_weightOfLeft_0 : decode cX10_weightOfLeft 0 = .ok (.lconst 1, 1) := by decide +kernel
theorem dX10_weightOfLeft_1 : decode cX10_weightOfLeft 1 = .ok (.lstore_n 3, 1) := by decide +kernel
theorem dX10_weightOfLeft_2 : decode cX10_weightOfLeft 2 = .ok (.iconst 0, 1) := by decide +kernel
theorem dX10_weightOfLeft_3 : decode cX10_weightOfLeft 3 = .ok (.istore 5, 2) := by decide +kernel
theorem dX10_weightOfLeft_5 : decode cX10_weightOfLeft 5 = .ok (.iload 5, 2) := by decide +kernel
theorem dX10_weightOfLeft_7 : decode cX10_weightOfLeft 7 = .ok (.aload_n 0, 1) := by decide +kernel
theorem dX10_weightOfLeft_8 : decode cX10_weightOfLeft 8 = .ok (.getfield 53, 3) := by decide +kernel
theorem dX10_weightOfLeft_11 : decode cX10_weightOfLeft 11 = .ok (.getfield 175, 3) := by decide +kernel
theorem dX10_weightOfLeft_14 : decode cX10_weightOfLeft 14 = .ok (.if_icmp .ge 32, 3) := by decide +kernel
theorem dX10_weightOfLeft_17 : decode cX10_weightOfLeft 17 = .ok (.lload_n 3, 1) := by decide +kernel
theorem dX10_weightOfLeft_18 : decode cX10_weightOfLeft 18 = .ok (.iload_n 1, 1) := by decide +kernel
theorem dX10_weightOfLeft_19 : decode cX10_weightOfLeft 19 = .ok (.iload 5, 2) := by decide +kernel
theorem dX10_weightOfLeft_21 : decode cX10_weightOfLeft 21 = .ok (.ishr, 1) := by decide +kernel
theorem dX10_weightOfLeft_22 : decode cX10_weightOfLeft 22 = .ok (.iconst 1, 1) := by decide +kernel
theorem dX10_weightOfLeft_23 : decode cX10_weightOfLeft 23 = .ok (.iand, 1) := by decide +kernel
theorem dX10_weightOfLeft_24 : decode cX10_weightOfLeft 24 = .ok (.iconst 1, 1) := by decide +kernel
theorem dX10_weightOfLeft_25 : decode cX10_weightOfLeft 25 = .ok (.if_icmp .ne 11, 3) := by decide +kernel
theorem dX10_weightOfLeft_28 : decode cX10_weightOfLeft 28 = .ok (.bipush 12, 2) := by decide +kernel
theorem dX10_weightOfLeft_30 : decode cX10_weightOfLeft 30 = .ok (.iload_n 2, 1) := by decide +kernel
theorem dX10_weightOfLeft_31 : decode cX10_weightOfLeft 31 = .ok (.isub, 1) := by decide +kernel
theorem dX10_weightOfLeft_32 : decode cX10_weightOfLeft 32 = .ok (.i2l, 1) := by decide +kernel
theorem dX10_weightOfLeft_33 : decode cX10_weightOfLeft 33 = .ok (.goto 5, 3) := by decide +kernel
theorem dX10_weightOfLeft_36 : decode cX10_weightOfLeft 36 = .ok (.iload_n 2, 1) := by decide +kernel
theorem dX10_weightOfLeft_37 : decode cX10_weightOfLeft 37 = .ok (.i2l, 1) := by decide +kernel
theorem dX10_weightOfLeft_38 : decode cX10_weightOfLeft 38 = .ok (.lmul, 1) := by decide +kernel
theorem dX10_weightOfLeft_39 : decode cX10_weightOfLeft 39 = .ok (.lstore_n 3, 1) := by decide +kernel
theorem dX10_weightOfLeft_40 : decode cX10_weightOfLeft 40 = .ok (.iinc 5 1, 3) := by decide +kernel
theorem dX10_weightOfLeft_43 : decode cX10_weightOfLeft 43 = .ok (.goto (-38), 3) := by decide +kernel
theorem dX10_weightOfLeft_46 : decode cX10_weightOfLeft 46 = .ok (.lload_n 3, 1) := by decide +kernel
theorem dX10_weightOfLeft_47 : decode cX10_weightOfLeft 47 = .ok (.lreturn, 1) := by decide +kernel
theorem dX10_lookAt_0 : decode cX10_lookAt 0 = .ok (.aload_n 0, 1) := by decide +kernel
theorem dX10_lookAt_1 : decode cX10_lookAt 1 = .ok (.getfield 64, 3) := by decide +kernel
theorem dX10_lookAt_4 : decode cX10_lookAt 4 = .ok (.aload_n 0, 1) := by decide +kernel
theorem dX10_lookAt_5 : decode cX10_lookAt 5 = .ok (.getfield 134, 3) := by decide +kernel
theorem dX10_lookAt_8 : decode cX10_lookAt 8 = .ok (.putfield 345, 3) := by decide +kernel
theorem dX10_lookAt_11 : decode cX10_lookAt 11 = .ok (.iconst 0, 1) := by decide +kernel
theorem dX10_lookAt_12 : decode cX10_lookAt 12 = .ok (.istore_n 2, 1) := by decide +kernel
theorem dX10_lookAt_13 : decode cX10_lookAt 13 = .ok (.iload_n 2, 1) := by decide +kernel
theorem dX10_lookAt_14 : decode cX10_lookAt 14 = .ok (.aload_n 0, 1) := by decide +kernel
theorem dX10_lookAt_15 : decode cX10_lookAt 15 = .ok (.getfield 134, 3) := by decide +kernel
theorem dX10_lookAt_18 : decode cX10_lookAt 18 = .ok (.if_icmp .ge 24, 3) := by decide +kernel
theorem dX10_lookAt_21 : decode cX10_lookAt 21 = .ok (.aload_n 0, 1) := by decide +kernel
theorem dX10_lookAt_22 : decode cX10_lookAt 22 = .ok (.getfield 64, 3) := by decide +kernel
theorem dX10_lookAt_25 : decode cX10_lookAt 25 = .ok (.getfield 347, 3) := by decide +kernel
theorem dX10_lookAt_28 : decode cX10_lookAt 28 = .ok (.iload_n 2, 1) := by decide +kernel
theorem dX10_lookAt_29 : decode cX10_lookAt 29 = .ok (.aload_n 0, 1) := by decide +kernel
theorem dX10_lookAt_30 : decode cX10_lookAt 30 = .ok (.iload_n 2, 1) := by decide +kernel
theorem dX10_lookAt_31 : decode cX10_lookAt 31 = .ok (.iload_n 1, 1) := by decide +kernel
theorem dX10_lookAt_32 : decode cX10_lookAt 32 = .ok (.invokevirtual 162, 3) := by decide +kernel
theorem dX10_lookAt_35 : decode cX10_lookAt 35 = .ok (.iastore, 1) := by decide +kernel
theorem dX10_lookAt_36 : decode cX10_lookAt 36 = .ok (.iinc 2 1, 3) := by decide +kernel
theorem dX10_lookAt_39 : decode cX10_lookAt 39 = .ok (.goto (-26), 3) := by decide +kernel
theorem dX10_lookAt_42 : decode cX10_lookAt 42 = .ok (.return_, 1) := by decide +kernel
theorem dX10_deedByLot_0 : decode cX10_deedByLot 0 = .ok (.lload_n 1, 1) := by decide +kernel
theorem dX10_deedByLot_1 : decode cX10_deedByLot 1 = .ok (.ldc2_w 349, 3) := by decide +kernel
theorem dX10_deedByLot_4 : decode cX10_deedByLot 4 = .ok (.ldiv, 1) := by decide +kernel
theorem dX10_deedByLot_5 : decode cX10_deedByLot 5 = .ok (.iconst 1, 1) := by decide +kernel
theorem dX10_deedByLot_6 : decode cX10_deedByLot 6 = .ok (.aload_n 0, 1) := by decide +kernel
theorem dX10_deedByLot_7 : decode cX10_deedByLot 7 = .ok (.getfield 134, 3) := by decide +kernel
theorem dX10_deedByLot_10 : decode cX10_deedByLot 10 = .ok (.invokestatic 210, 3) := by decide +kernel
theorem dX10_deedByLot_13 : decode cX10_deedByLot 13 = .ok (.i2l, 1) := by decide +kernel
theorem dX10_deedByLot_14 : decode cX10_deedByLot 14 = .ok (.lrem, 1) := by decide +kernel
theorem dX10_deedByLot_15 : decode cX10_deedByLot 15 = .ok (.l2i, 1) := by decide +kernel
theorem dX10_deedByLot_16 : decode cX10_deedByLot 16 = .ok (.istore_n 3, 1) := by decide +kernel
theorem dX10_deedByLot_17 : decode cX10_deedByLot 17 = .ok (.lload_n 1, 1) := by decide +kernel
theorem dX10_deedByLot_18 : decode cX10_deedByLot 18 = .ok (.ldc2_w 351, 3) := by decide +kernel
theorem dX10_deedByLot_21 : decode cX10_deedByLot 21 = .ok (.lrem, 1) := by decide +kernel
theorem dX10_deedByLot_22 : decode cX10_deedByLot 22 = .ok (.l2i, 1) := by decide +kernel
theorem dX10_deedByLot_23 : decode cX10_deedByLot 23 = .ok (.istore 4, 2) := by decide +kernel
theorem dX10_deedByLot_25 : decode cX10_deedByLot 25 = .ok (.iload 4, 2) := by decide +kernel
theorem dX10_deedByLot_27 : decode cX10_deedByLot 27 = .ok (.iconst 3, 1) := by decide +kernel
theorem dX10_deedByLot_28 : decode cX10_deedByLot 28 = .ok (.if_icmp .ne 16, 3) := by decide +kernel
theorem dX10_deedByLot_31 : decode cX10_deedByLot 31 = .ok (.aload_n 0, 1) := by decide +kernel
theorem dX10_deedByLot_32 : decode cX10_deedByLot 32 = .ok (.getfield 53, 3) := by decide +kernel
theorem dX10_deedByLot_35 : decode cX10_deedByLot 35 = .ok (.iconst 4, 1) := by decide +kernel
theorem dX10_deedByLot_36 : decode cX10_deedByLot 36 = .ok (.iload_n 3, 1) := by decide +kernel
theorem dX10_deedByLot_37 : decode cX10_deedByLot 37 = .ok (.iconst 0, 1) := by decide +kernel
theorem dX10_deedByLot_38 : decode cX10_deedByLot 38 = .ok (.invokevirtual 171, 3) := by decide +kernel
theorem dX10_deedByLot_41 : decode cX10_deedByLot 41 = .ok (.goto 80, 3) := by decide +kernel
theorem dX10_deedByLot_44 : decode cX10_deedByLot 44 = .ok (.iload 4, 2) := by decide +kernel
theorem dX10_deedByLot_46 : decode cX10_deedByLot 46 = .ok (.iconst 2, 1) := by decide +kernel
theorem dX10_deedByLot_47 : decode cX10_deedByLot 47 = .ok (.if_icmp .ne 32, 3) := by decide +kernel
theorem dX10_deedByLot_50 : decode cX10_deedByLot 50 = .ok (.aload_n 0, 1) := by decide +kernel
theorem dX10_deedByLot_51 : decode cX10_deedByLot 51 = .ok (.getfield 53, 3) := by decide +kernel
theorem dX10_deedByLot_54 : decode cX10_deedByLot 54 = .ok (.getfield 175, 3) := by decide +kernel
theorem dX10_deedByLot_57 : decode cX10_deedByLot 57 = .ok (.ifCond .le 22, 3) := by decide +kernel
theorem dX10_deedByLot_60 : decode cX10_deedByLot 60 = .ok (.aload_n 0, 1) := by decide +kernel
theorem dX10_deedByLot_61 : decode cX10_deedByLot 61 = .ok (.getfield 53, 3) := by decide +kernel
theorem dX10_deedByLot_64 : decode cX10_deedByLot 64 = .ok (.iconst 2, 1) := by decide +kernel
theorem dX10_deedByLot_65 : decode cX10_deedByLot 65 = .ok (.aload_n 0, 1) := by decide +kernel
theorem dX10_deedByLot_66 : decode cX10_deedByLot 66 = .ok (.getfield 53, 3) := by decide +kernel
theorem dX10_deedByLot_69 : decode cX10_deedByLot 69 = .ok (.invokevirtual 178, 3) := by decide +kernel
theorem dX10_deedByLot_72 : decode cX10_deedByLot 72 = .ok (.iconst 0, 1) := by decide +kernel
theorem dX10_deedByLot_73 : decode cX10_deedByLot 73 = .ok (.invokevirtual 171, 3) := by decide +kernel
theorem dX10_deedByLot_76 : decode cX10_deedByLot 76 = .ok (.goto 45, 3) := by decide +kernel
theorem dX10_deedByLot_79 : decode cX10_deedByLot 79 = .ok (.iload 4, 2) := by decide +kernel
theorem dX10_deedByLot_81 : decode cX10_deedByLot 81 = .ok (.iconst 2, 1) := by decide +kernel
theorem dX10_deedByLot_82 : decode cX10_deedByLot 82 = .ok (.if_icmp .ge 29, 3) := by decide +kernel
theorem dX10_deedByLot_85 : decode cX10_deedByLot 85 = .ok (.aload_n 0, 1) := by decide +kernel
theorem dX10_deedByLot_86 : decode cX10_deedByLot 86 = .ok (.getfield 53, 3) := by decide +kernel
theorem dX10_deedByLot_89 : decode cX10_deedByLot 89 = .ok (.iload_n 3, 1) := by decide +kernel
theorem dX10_deedByLot_90 : decode cX10_deedByLot 90 = .ok (.invokevirtual 165, 3) := by decide +kernel
theorem dX10_deedByLot_93 : decode cX10_deedByLot 93 = .ok (.bipush (-9), 2) := by decide +kernel
theorem dX10_deedByLot_95 : decode cX10_deedByLot 95 = .ok (.if_icmp .ne 16, 3) := by decide +kernel
theorem dX10_deedByLot_98 : decode cX10_deedByLot 98 = .ok (.aload_n 0, 1) := by decide +kernel
theorem dX10_deedByLot_99 : decode cX10_deedByLot 99 = .ok (.getfield 53, 3) := by decide +kernel
theorem dX10_deedByLot_102 : decode cX10_deedByLot 102 = .ok (.iconst 1, 1) := by decide +kernel
theorem dX10_deedByLot_103 : decode cX10_deedByLot 103 = .ok (.iload_n 3, 1) := by decide +kernel
theorem dX10_deedByLot_104 : decode cX10_deedByLot 104 = .ok (.iconst 0, 1) := by decide +kernel
theorem dX10_deedByLot_105 : decode cX10_deedByLot 105 = .ok (.invokevirtual 171, 3) := by decide +kernel
theorem dX10_deedByLot_108 : decode cX10_deedByLot 108 = .ok (.goto 13, 3) := by decide +kernel
theorem dX10_deedByLot_111 : decode cX10_deedByLot 111 = .ok (.aload_n 0, 1) := by decide +kernel
theorem dX10_deedByLot_112 : decode cX10_deedByLot 112 = .ok (.getfield 53, 3) := by decide +kernel
theorem dX10_deedByLot_115 : decode cX10_deedByLot 115 = .ok (.iconst 0, 1) := by decide +kernel
theorem dX10_deedByLot_116 : decode cX10_deedByLot 116 = .ok (.iconst 0, 1) := by decide +kernel
theorem dX10_deedByLot_117 : decode cX10_deedByLot 117 = .ok (.iconst 0, 1) := by decide +kernel
theorem dX10_deedByLot_118 : decode cX10_deedByLot 118 = .ok (.invokevirtual 171, 3) := by decide +kernel
theorem dX10_deedByLot_121 : decode cX10_deedByLot 121 = .ok (.return_, 1) := by decide +kernel
theorem dX10_fits_0 : decode cX10_fits 0 = .ok (.iconst 0, 1) := by decide +kernel
theorem dX10_fits_1 : decode cX10_fits 1 = .ok (.istore 4, 2) := by decide +kernel
theorem dX10_fits_3 : decode cX10_fits 3 = .ok (.iload 4, 2) := by decide +kernel
theorem dX10_fits_5 : decode cX10_fits 5 = .ok (.iconst 1, 1) := by decide +kernel
theorem dX10_fits_6 : decode cX10_fits 6 = .ok (.iadd, 1) := by decide +kernel
theorem dX10_fits_7 : decode cX10_fits 7 = .ok (.aload_n 3, 1) := by decide +kernel
theorem dX10_fits_8 : decode cX10_fits 8 = .ok (.getfield 103, 3) := by decide +kernel
theorem dX10_fits_11 : decode cX10_fits 11 = .ok (.if_icmp .ge 36, 3) := by decide +kernel
theorem dX10_fits_14 : decode cX10_fits 14 = .ok (.aload_n 0, 1) := by decide +kernel
theorem dX10_fits_15 : decode cX10_fits 15 = .ok (.iload_n 1, 1) := by decide +kernel
theorem dX10_fits_16 : decode cX10_fits 16 = .ok (.iload_n 2, 1) := by decide +kernel
theorem dX10_fits_17 : decode cX10_fits 17 = .ok (.aload_n 3, 1) := by decide +kernel
theorem dX10_fits_18 : decode cX10_fits 18 = .ok (.getfield 92, 3) := by decide +kernel
theorem dX10_fits_21 : decode cX10_fits 21 = .ok (.iload 4, 2) := by decide +kernel
theorem dX10_fits_23 : decode cX10_fits 23 = .ok (.iaload, 1) := by decide +kernel
theorem dX10_fits_24 : decode cX10_fits 24 = .ok (.invokevirtual 336, 3) := by decide +kernel
theorem dX10_fits_27 : decode cX10_fits 27 = .ok (.aload_n 3, 1) := by decide +kernel
theorem dX10_fits_28 : decode cX10_fits 28 = .ok (.getfield 92, 3) := by decide +kernel
theorem dX10_fits_31 : decode cX10_fits 31 = .ok (.iload 4, 2) := by decide +kernel
theorem dX10_fits_33 : decode cX10_fits 33 = .ok (.iconst 1, 1) := by decide +kernel
theorem dX10_fits_34 : decode cX10_fits 34 = .ok (.iadd, 1) := by decide +kernel
theorem dX10_fits_35 : decode cX10_fits 35 = .ok (.iaload, 1) := by decide +kernel
theorem dX10_fits_36 : decode cX10_fits 36 = .ok (.if_icmp .eq 5, 3) := by decide +kernel
theorem dX10_fits_39 : decode cX10_fits 39 = .ok (.iconst 0, 1) := by decide +kernel
theorem dX10_fits_40 : decode cX10_fits 40 = .ok (.ireturn, 1) := by decide +kernel
theorem dX10_fits_41 : decode cX10_fits 41 = .ok (.iinc 4 2, 3) := by decide +kernel
theorem dX10_fits_44 : decode cX10_fits 44 = .ok (.goto (-41), 3) := by decide +kernel
theorem dX10_fits_47 : decode cX10_fits 47 = .ok (.iconst 1, 1) := by decide +kernel
theorem dX10_fits_48 : decode cX10_fits 48 = .ok (.ireturn, 1) := by decide +kernel
theorem dX10_fittingKinds_0 : decode cX10_fittingKinds 0 = .ok (.iconst 0, 1) := by decide +kernel
theorem dX10_fittingKinds_1 : decode cX10_fittingKinds 1 = .ok (.istore_n 3, 1) := by decide +kernel
theorem dX10_fittingKinds_2 : decode cX10_fittingKinds 2 = .ok (.iconst 0, 1) := by decide +kernel
theorem dX10_fittingKinds_3 : decode cX10_fittingKinds 3 = .ok (.istore 4, 2) := by decide +kernel
theorem dX10_fittingKinds_5 : decode cX10_fittingKinds 5 = .ok (.iload 4, 2) := by decide +kernel
theorem dX10_fittingKinds_7 : decode cX10_fittingKinds 7 = .ok (.bipush 6, 2) := by decide +kernel
theorem dX10_fittingKinds_9 : decode cX10_fittingKinds 9 = .ok (.if_icmp .ge 44, 3) := by decide +kernel
theorem dX10_fittingKinds_12 : decode cX10_fittingKinds 12 = .ok (.aload_n 0, 1) := by decide +kernel
theorem dX10_fittingKinds_13 : decode cX10_fittingKinds 13 = .ok (.getfield 21, 3) := by decide +kernel
theorem dX10_fittingKinds_16 : decode cX10_fittingKinds 16 = .ok (.iload 4, 2) := by decide +kernel
theorem dX10_fittingKinds_18 : decode cX10_fittingKinds 18 = .ok (.aaload, 1) := by decide +kernel
theorem dX10_fittingKinds_19 : decode cX10_fittingKinds 19 = .ok (.aload_n 0, 1) := by decide +kernel
theorem dX10_fittingKinds_20 : decode cX10_fittingKinds 20 = .ok (.iload_n 1, 1) := by decide +kernel
theorem dX10_fittingKinds_21 : decode cX10_fittingKinds 21 = .ok (.invokevirtual 188, 3) := by decide +kernel
theorem dX10_fittingKinds_24 : decode cX10_fittingKinds 24 = .ok (.aload_n 0, 1) := by decide +kernel
theorem dX10_fittingKinds_25 : decode cX10_fittingKinds 25 = .ok (.getfield 43, 3) := by decide +kernel
theorem dX10_fittingKinds_28 : decode cX10_fittingKinds 28 = .ok (.iload_n 1, 1) := by decide +kernel
theorem dX10_fittingKinds_29 : decode cX10_fittingKinds 29 = .ok (.aaload, 1) := by decide +kernel
theorem dX10_fittingKinds_30 : decode cX10_fittingKinds 30 = .ok (.getfield 238, 3) := by decide +kernel
theorem dX10_fittingKinds_33 : decode cX10_fittingKinds 33 = .ok (.aload_n 2, 1) := by decide +kernel
theorem dX10_fittingKinds_34 : decode cX10_fittingKinds 34 = .ok (.invokestatic 241, 3) := by decide +kernel
theorem dX10_fittingKinds_37 : decode cX10_fittingKinds 37 = .ok (.ifCond .eq 10, 3) := by decide +kernel
theorem dX10_fittingKinds_40 : decode cX10_fittingKinds 40 = .ok (.iload_n 3, 1) := by decide +kernel
theorem dX10_fittingKinds_41 : decode cX10_fittingKinds 41 = .ok (.iconst 1, 1) := by decide +kernel
theorem dX10_fittingKinds_42 : decode cX10_fittingKinds 42 = .ok (.iload 4, 2) := by decide +kernel
theorem dX10_fittingKinds_44 : decode cX10_fittingKinds 44 = .ok (.ishl, 1) := by decide +kernel
theorem dX10_fittingKinds_45 : decode cX10_fittingKinds 45 = .ok (.ior, 1) := by decide +kernel
theorem dX10_fittingKinds_46 : decode cX10_fittingKinds 46 = .ok (.istore_n 3, 1) := by decide +kernel
theorem dX10_fittingKinds_47 : decode cX10_fittingKinds 47 = .ok (.iinc 4 1, 3) := by decide +kernel
theorem dX10_fittingKinds_50 : decode cX10_fittingKinds 50 = .ok (.goto (-45), 3) := by decide +kernel
theorem dX10_fittingKinds_53 : decode cX10_fittingKinds 53 = .ok (.iload_n 3, 1) := by decide +kernel
theorem dX10_fittingKinds_54 : decode cX10_fittingKinds 54 = .ok (.ireturn, 1) := by decide +kernel
theorem dX10_greatestPart_0 : decode cX10_greatestPart 0 = .ok (.iconst 0, 1) := by decide +kernel
theorem dX10_greatestPart_1 : decode cX10_greatestPart 1 = .ok (.istore 4, 2) := by decide +kernel
theorem dX10_greatestPart_3 : decode cX10_greatestPart 3 = .ok (.iconst 0, 1) := by decide +kernel
theorem dX10_greatestPart_4 : decode cX10_greatestPart 4 = .ok (.istore 5, 2) := by decide +kernel
theorem dX10_greatestPart_6 : decode cX10_greatestPart 6 = .ok (.iload 5, 2) := by decide +kernel
theorem dX10_greatestPart_8 : decode cX10_greatestPart 8 = .ok (.bipush 6, 2) := by decide +kernel
theorem dX10_greatestPart_10 : decode cX10_greatestPart 10 = .ok (.if_icmp .ge 74, 3) := by decide +kernel
theorem dX10_greatestPart_13 : decode cX10_greatestPart 13 = .ok (.iconst 0, 1) := by decide +kernel
theorem dX10_greatestPart_14 : decode cX10_greatestPart 14 = .ok (.istore 6, 2) := by decide +kernel
theorem dX10_greatestPart_16 : decode cX10_greatestPart 16 = .ok (.iconst 0, 1) := by decide +kernel
theorem dX10_greatestPart_17 : decode cX10_greatestPart 17 = .ok (.istore 7, 2) := by decide +kernel
theorem dX10_greatestPart_19 : decode cX10_greatestPart 19 = .ok (.iload 7, 2) := by decide +kernel
theorem dX10_greatestPart_21 : decode cX10_greatestPart 21 = .ok (.bipush 6, 2) := by decide +kernel
theorem dX10_greatestPart_23 : decode cX10_greatestPart 23 = .ok (.if_icmp .ge 46, 3) := by decide +kernel
theorem dX10_greatestPart_26 : decode cX10_greatestPart 26 = .ok (.iload_n 2, 1) := by decide +kernel
theorem dX10_greatestPart_27 : decode cX10_greatestPart 27 = .ok (.iload 5, 2) := by decide +kernel
theorem dX10_greatestPart_29 : decode cX10_greatestPart 29 = .ok (.ishr, 1) := by decide +kernel
theorem dX10_greatestPart_30 : decode cX10_greatestPart 30 = .ok (.iload_n 2, 1) := by decide +kernel
theorem dX10_greatestPart_31 : decode cX10_greatestPart 31 = .ok (.iload 7, 2) := by decide +kernel
theorem dX10_greatestPart_33 : decode cX10_greatestPart 33 = .ok (.ishr, 1) := by decide +kernel
theorem dX10_greatestPart_34 : decode cX10_greatestPart 34 = .ok (.iand, 1) := by decide +kernel
theorem dX10_greatestPart_35 : decode cX10_greatestPart 35 = .ok (.iconst 1, 1) := by decide +kernel
theorem dX10_greatestPart_36 : decode cX10_greatestPart 36 = .ok (.iand, 1) := by decide +kernel
theorem dX10_greatestPart_37 : decode cX10_greatestPart 37 = .ok (.iconst 1, 1) := by decide +kernel
theorem dX10_greatestPart_38 : decode cX10_greatestPart 38 = .ok (.if_icmp .ne 25, 3) := by decide +kernel
theorem dX10_greatestPart_41 : decode cX10_greatestPart 41 = .ok (.aload_n 0, 1) := by decide +kernel
theorem dX10_greatestPart_42 : decode cX10_greatestPart 42 = .ok (.iload_n 1, 1) := by decide +kernel
theorem dX10_greatestPart_43 : decode cX10_greatestPart 43 = .ok (.iload 5, 2) := by decide +kernel
theorem dX10_greatestPart_45 : decode cX10_greatestPart 45 = .ok (.iload_n 3, 1) := by decide +kernel
theorem dX10_greatestPart_46 : decode cX10_greatestPart 46 = .ok (.invokevirtual 339, 3) := by decide +kernel
theorem dX10_greatestPart_49 : decode cX10_greatestPart 49 = .ok (.aload_n 0, 1) := by decide +kernel
theorem dX10_greatestPart_50 : decode cX10_greatestPart 50 = .ok (.iload_n 1, 1) := by decide +kernel
theorem dX10_greatestPart_51 : decode cX10_greatestPart 51 = .ok (.iload 7, 2) := by decide +kernel
theorem dX10_greatestPart_53 : decode cX10_greatestPart 53 = .ok (.iload_n 3, 1) := by decide +kernel
theorem dX10_greatestPart_54 : decode cX10_greatestPart 54 = .ok (.invokevirtual 339, 3) := by decide +kernel
theorem dX10_greatestPart_57 : decode cX10_greatestPart 57 = .ok (.if_icmp .ne 6, 3) := by decide +kernel
theorem dX10_greatestPart_60 : decode cX10_greatestPart 60 = .ok (.iinc 6 1, 3) := by decide +kernel
theorem dX10_greatestPart_63 : decode cX10_greatestPart 63 = .ok (.iinc 7 1, 3) := by decide +kernel
theorem dX10_greatestPart_66 : decode cX10_greatestPart 66 = .ok (.goto (-47), 3) := by decide +kernel
theorem dX10_greatestPart_69 : decode cX10_greatestPart 69 = .ok (.iload 4, 2) := by decide +kernel
theorem dX10_greatestPart_71 : decode cX10_greatestPart 71 = .ok (.iload 6, 2) := by decide +kernel
theorem dX10_greatestPart_73 : decode cX10_greatestPart 73 = .ok (.invokestatic 210, 3) := by decide +kernel
theorem dX10_greatestPart_76 : decode cX10_greatestPart 76 = .ok (.istore 4, 2) := by decide +kernel
theorem dX10_greatestPart_78 : decode cX10_greatestPart 78 = .ok (.iinc 5 1, 3) := by decide +kernel
theorem dX10_greatestPart_81 : decode cX10_greatestPart 81 = .ok (.goto (-75), 3) := by decide +kernel
theorem dX10_greatestPart_84 : decode cX10_greatestPart 84 = .ok (.iload 4, 2) := by decide +kernel
theorem dX10_greatestPart_86 : decode cX10_greatestPart 86 = .ok (.ireturn, 1) := by decide +kernel
theorem dX10_tell_0 : decode cX10_tell 0 = .ok (.lload_n 1, 1) := by decide +kernel
theorem dX10_tell_1 : decode cX10_tell 1 = .ok (.lload_n 3, 1) := by decide +kernel
theorem dX10_tell_2 : decode cX10_tell 2 = .ok (.invokestatic 353, 3) := by decide +kernel
theorem dX10_tell_5 : decode cX10_tell 5 = .ok (.lstore 5, 2) := by decide +kernel
theorem dX10_tell_7 : decode cX10_tell 7 = .ok (.lload 5, 2) := by decide +kernel
theorem dX10_tell_9 : decode cX10_tell 9 = .ok (.lconst 0, 1) := by decide +kernel
theorem dX10_tell_10 : decode cX10_tell 10 = .ok (.lcmp, 1) := by decide +kernel
theorem dX10_tell_11 : decode cX10_tell 11 = .ok (.ifCond .le 19, 3) := by decide +kernel
theorem dX10_tell_14 : decode cX10_tell 14 = .ok (.aload_n 0, 1) := by decide +kernel
theorem dX10_tell_15 : decode cX10_tell 15 = .ok (.lload_n 1, 1) := by decide +kernel
theorem dX10_tell_16 : decode cX10_tell 16 = .ok (.lload 5, 2) := by decide +kernel
theorem dX10_tell_18 : decode cX10_tell 18 = .ok (.ldiv, 1) := by decide +kernel
theorem dX10_tell_19 : decode cX10_tell 19 = .ok (.putfield 287, 3) := by decide +kernel
theorem dX10_tell_22 : decode cX10_tell 22 = .ok (.aload_n 0, 1) := by decide +kernel
theorem dX10_tell_23 : decode cX10_tell 23 = .ok (.lload_n 3, 1) := by decide +kernel
theorem dX10_tell_24 : decode cX10_tell 24 = .ok (.lload 5, 2) := by decide +kernel
theorem dX10_tell_26 : decode cX10_tell 26 = .ok (.ldiv, 1) := by decide +kernel
theorem dX10_tell_27 : decode cX10_tell 27 = .ok (.putfield 68, 3) := by decide +kernel
theorem dX10_tell_30 : decode cX10_tell 30 = .ok (.return_, 1) := by decide +kernel
theorem dX10_greatestShared_0 : decode cX10_greatestShared 0 = .ok (.lload_n 0, 1) := by decide +kernel
theorem dX10_greatestShared_1 : decode cX10_greatestShared 1 = .ok (.lstore 4, 2) := by decide +kernel
theorem dX10_greatestShared_3 : decode cX10_greatestShared 3 = .ok (.lload_n 2, 1) := by decide +kernel
theorem dX10_greatestShared_4 : decode cX10_greatestShared 4 = .ok (.lstore 6, 2) := by decide +kernel
theorem dX10_greatestShared_6 : decode cX10_greatestShared 6 = .ok (.iconst 0, 1) := by decide +kernel
theorem dX10_greatestShared_7 : decode cX10_greatestShared 7 = .ok (.istore 8, 2) := by decide +kernel
theorem dX10_greatestShared_9 : decode cX10_greatestShared 9 = .ok (.iload 8, 2) := by decide +kernel
theorem dX10_greatestShared_11 : decode cX10_greatestShared 11 = .ok (.sipush 200, 3) := by decide +kernel
theorem dX10_greatestShared_14 : decode cX10_greatestShared 14 = .ok (.if_icmp .ge 31, 3) := by decide +kernel
theorem dX10_greatestShared_17 : decode cX10_greatestShared 17 = .ok (.lload 6, 2) := by decide +kernel
theorem dX10_greatestShared_19 : decode cX10_greatestShared 19 = .ok (.lconst 0, 1) := by decide +kernel
theorem dX10_greatestShared_20 : decode cX10_greatestShared 20 = .ok (.lcmp, 1) := by decide +kernel
theorem dX10_greatestShared_21 : decode cX10_greatestShared 21 = .ok (.ifCond .eq 24, 3) := by decide +kernel
theorem dX10_greatestShared_24 : decode cX10_greatestShared 24 = .ok (.lload 4, 2) := by decide +kernel
theorem dX10_greatestShared_26 : decode cX10_greatestShared 26 = .ok (.lload 6, 2) := by decide +kernel
theorem dX10_greatestShared_28 : decode cX10_greatestShared 28 = .ok (.lrem, 1) := by decide +kernel
theorem dX10_greatestShared_29 : decode cX10_greatestShared 29 = .ok (.lstore 9, 2) := by decide +kernel
theorem dX10_greatestShared_31 : decode cX10_greatestShared 31 = .ok (.lload 6, 2) := by decide +kernel
theorem dX10_greatestShared_33 : decode cX10_greatestShared 33 = .ok (.lstore 4, 2) := by decide +kernel
theorem dX10_greatestShared_35 : decode cX10_greatestShared 35 = .ok (.lload 9, 2) := by decide +kernel
theorem dX10_greatestShared_37 : decode cX10_greatestShared 37 = .ok (.lstore 6, 2) := by decide +kernel
theorem dX10_greatestShared_39 : decode cX10_greatestShared 39 = .ok (.iinc 8 1, 3) := by decide +kernel
theorem dX10_greatestShared_42 : decode cX10_greatestShared 42 = .ok (.goto (-33), 3) := by decide +kernel
theorem dX10_greatestShared_45 : decode cX10_greatestShared 45 = .ok (.lload 4, 2) := by decide +kernel
theorem dX10_greatestShared_47 : decode cX10_greatestShared 47 = .ok (.lreturn, 1) := by decide +kernel
theorem dX10_howManyThere_0 : decode cX10_howManyThere 0 = .ok (.iconst 0, 1) := by decide +kernel
theorem dX10_howManyThere_1 : decode cX10_howManyThere 1 = .ok (.istore_n 1, 1) := by decide +kernel
theorem dX10_howManyThere_2 : decode cX10_howManyThere 2 = .ok (.iconst 0, 1) := by decide +kernel
theorem dX10_howManyThere_3 : decode cX10_howManyThere 3 = .ok (.istore_n 2, 1) := by decide +kernel
theorem dX10_howManyThere_4 : decode cX10_howManyThere 4 = .ok (.iload_n 2, 1) := by decide +kernel
theorem dX10_howManyThere_5 : decode cX10_howManyThere 5 = .ok (.aload_n 0, 1) := by decide +kernel
theorem dX10_howManyThere_6 : decode cX10_howManyThere 6 = .ok (.arraylength, 1) := by decide +kernel
theorem dX10_howManyThere_7 : decode cX10_howManyThere 7 = .ok (.if_icmp .ge 21, 3) := by decide +kernel
theorem dX10_howManyThere_10 : decode cX10_howManyThere 10 = .ok (.aload_n 0, 1) := by decide +kernel
theorem dX10_howManyThere_11 : decode cX10_howManyThere 11 = .ok (.iload_n 2, 1) := by decide +kernel
theorem dX10_howManyThere_12 : decode cX10_howManyThere 12 = .ok (.aaload, 1) := by decide +kernel
theorem dX10_howManyThere_13 : decode cX10_howManyThere 13 = .ok (.invokevirtual 99, 3) := by decide +kernel
theorem dX10_howManyThere_16 : decode cX10_howManyThere 16 = .ok (.ifCond .eq 6, 3) := by decide +kernel
theorem dX10_howManyThere_19 : decode cX10_howManyThere 19 = .ok (.iinc 1 1, 3) := by decide +kernel
theorem dX10_howManyThere_22 : decode cX10_howManyThere 22 = .ok (.iinc 2 1, 3) := by decide +kernel
theorem dX10_howManyThere_25 : decode cX10_howManyThere 25 = .ok (.goto (-21), 3) := by decide +kernel
theorem dX10_howManyThere_28 : decode cX10_howManyThere 28 = .ok (.iload_n 1, 1) := by decide +kernel
theorem dX10_howManyThere_29 : decode cX10_howManyThere 29 = .ok (.ireturn, 1) := by decide +kernel
theorem dX10_howManyKept_0 : decode cX10_howManyKept 0 = .ok (.iconst 0, 1) := by decide +kernel
theorem dX10_howManyKept_1 : decode cX10_howManyKept 1 = .ok (.istore_n 1, 1) := by decide +kernel
theorem dX10_howManyKept_2 : decode cX10_howManyKept 2 = .ok (.iconst 0, 1) := by decide +kernel
theorem dX10_howManyKept_3 : decode cX10_howManyKept 3 = .ok (.istore_n 2, 1) := by decide +kernel
theorem dX10_howManyKept_4 : decode cX10_howManyKept 4 = .ok (.iload_n 2, 1) := by decide +kernel
theorem dX10_howManyKept_5 : decode cX10_howManyKept 5 = .ok (.iconst 3, 1) := by decide +kernel
theorem dX10_howManyKept_6 : decode cX10_howManyKept 6 = .ok (.if_icmp .ge 24, 3) := by decide +kernel
theorem dX10_howManyKept_9 : decode cX10_howManyKept 9 = .ok (.aload_n 0, 1) := by decide +kernel
theorem dX10_howManyKept_10 : decode cX10_howManyKept 10 = .ok (.getfield 57, 3) := by decide +kernel
theorem dX10_howManyKept_13 : decode cX10_howManyKept 13 = .ok (.iload_n 2, 1) := by decide +kernel
theorem dX10_howManyKept_14 : decode cX10_howManyKept 14 = .ok (.aaload, 1) := by decide +kernel
theorem dX10_howManyKept_15 : decode cX10_howManyKept 15 = .ok (.getfield 130, 3) := by decide +kernel
theorem dX10_howManyKept_18 : decode cX10_howManyKept 18 = .ok (.ifCond .eq 6, 3) := by decide +kernel
theorem dX10_howManyKept_21 : decode cX10_howManyKept 21 = .ok (.iinc 1 1, 3) := by decide +kernel
theorem dX10_howManyKept_24 : decode cX10_howManyKept 24 = .ok (.iinc 2 1, 3) := by decide +kernel
theorem dX10_howManyKept_27 : decode cX10_howManyKept 27 = .ok (.goto (-23), 3) := by decide +kernel
theorem dX10_howManyKept_30 : decode cX10_howManyKept 30 = .ok (.iload_n 1, 1) := by decide +kernel
theorem dX10_howManyKept_31 : decode cX10_howManyKept 31 = .ok (.ireturn, 1) := by decide +kernel
theorem dX10_howManyOf_0 : decode cX10_howManyOf 0 = .ok (.iconst 0, 1) := by decide +kernel
theorem dX10_howManyOf_1 : decode cX10_howManyOf 1 = .ok (.istore_n 2, 1) := by decide +kernel
theorem dX10_howManyOf_2 : decode cX10_howManyOf 2 = .ok (.iconst 0, 1) := by decide +kernel
theorem dX10_howManyOf_3 : decode cX10_howManyOf 3 = .ok (.istore_n 3, 1) := by decide +kernel
theorem dX10_howManyOf_4 : decode cX10_howManyOf 4 = .ok (.iload_n 3, 1) := by decide +kernel
theorem dX10_howManyOf_5 : decode cX10_howManyOf 5 = .ok (.aload_n 0, 1) := by decide +kernel
theorem dX10_howManyOf_6 : decode cX10_howManyOf 6 = .ok (.getfield 134, 3) := by decide +kernel
theorem dX10_howManyOf_9 : decode cX10_howManyOf 9 = .ok (.if_icmp .ge 28, 3) := by decide +kernel
theorem dX10_howManyOf_12 : decode cX10_howManyOf 12 = .ok (.aload_n 0, 1) := by decide +kernel
theorem dX10_howManyOf_13 : decode cX10_howManyOf 13 = .ok (.getfield 43, 3) := by decide +kernel
theorem dX10_howManyOf_16 : decode cX10_howManyOf 16 = .ok (.iload_n 3, 1) := by decide +kernel
theorem dX10_howManyOf_17 : decode cX10_howManyOf 17 = .ok (.aaload, 1) := by decide +kernel
theorem dX10_howManyOf_18 : decode cX10_howManyOf 18 = .ok (.getfield 144, 3) := by decide +kernel
theorem dX10_howManyOf_21 : decode cX10_howManyOf 21 = .ok (.iload_n 1, 1) := by decide +kernel
theorem dX10_howManyOf_22 : decode cX10_howManyOf 22 = .ok (.invokestatic 148, 3) := by decide +kernel
theorem dX10_howManyOf_25 : decode cX10_howManyOf 25 = .ok (.ifCond .eq 6, 3) := by decide +kernel
theorem dX10_howManyOf_28 : decode cX10_howManyOf 28 = .ok (.iinc 2 1, 3) := by decide +kernel
theorem dX10_howManyOf_31 : decode cX10_howManyOf 31 = .ok (.iinc 3 1, 3) := by decide +kernel
theorem dX10_howManyOf_34 : decode cX10_howManyOf 34 = .ok (.goto (-30), 3) := by decide +kernel
theorem dX10_howManyOf_37 : decode cX10_howManyOf 37 = .ok (.iload_n 2, 1) := by decide +kernel
theorem dX10_howManyOf_38 : decode cX10_howManyOf 38 = .ok (.ireturn, 1) := by decide +kernel
theorem dX10_withStrips_0 : decode cX10_withStrips 0 = .ok (.lload_n 0, 1) := by decide +kernel
theorem dX10_withStrips_1 : decode cX10_withStrips 1 = .ok (.lstore_n 3, 1) := by decide +kernel
theorem dX10_withStrips_2 : decode cX10_withStrips 2 = .ok (.iconst 0, 1) := by decide +kernel
theorem dX10_withStrips_3 : decode cX10_withStrips 3 = .ok (.istore 5, 2) := by decide +kernel
theorem dX10_withStrips_5 : decode cX10_withStrips 5 = .ok (.iload 5, 2) := by decide +kernel
theorem dX10_withStrips_7 : decode cX10_withStrips 7 = .ok (.aload_n 2, 1) := by decide +kernel
theorem dX10_withStrips_8 : decode cX10_withStrips 8 = .ok (.arraylength, 1) := by decide +kernel
theorem dX10_withStrips_9 : decode cX10_withStrips 9 = .ok (.if_icmp .ge 63, 3) := by decide +kernel
theorem dX10_withStrips_12 : decode cX10_withStrips 12 = .ok (.ldc2_w 308, 3) := by decide +kernel
theorem dX10_withStrips_15 : decode cX10_withStrips 15 = .ok (.lload_n 3, 1) := by decide +kernel
theorem dX10_withStrips_16 : decode cX10_withStrips 16 = .ok (.lmul, 1) := by decide +kernel
theorem dX10_withStrips_17 : decode cX10_withStrips 17 = .ok (.aload_n 2, 1) := by decide +kernel
theorem dX10_withStrips_18 : decode cX10_withStrips 18 = .ok (.iload 5, 2) := by decide +kernel
theorem dX10_withStrips_20 : decode cX10_withStrips 20 = .ok (.aaload, 1) := by decide +kernel
theorem dX10_withStrips_21 : decode cX10_withStrips 21 = .ok (.getfield 103, 3) := by decide +kernel
theorem dX10_withStrips_24 : decode cX10_withStrips 24 = .ok (.i2l, 1) := by decide +kernel
theorem dX10_withStrips_25 : decode cX10_withStrips 25 = .ok (.ladd, 1) := by decide +kernel
theorem dX10_withStrips_26 : decode cX10_withStrips 26 = .ok (.lstore_n 3, 1) := by decide +kernel
theorem dX10_withStrips_27 : decode cX10_withStrips 27 = .ok (.iconst 0, 1) := by decide +kernel
theorem dX10_withStrips_28 : decode cX10_withStrips 28 = .ok (.istore 6, 2) := by decide +kernel
theorem dX10_withStrips_30 : decode cX10_withStrips 30 = .ok (.iload 6, 2) := by decide +kernel
theorem dX10_withStrips_32 : decode cX10_withStrips 32 = .ok (.aload_n 2, 1) := by decide +kernel
theorem dX10_withStrips_33 : decode cX10_withStrips 33 = .ok (.iload 5, 2) := by decide +kernel
theorem dX10_withStrips_35 : decode cX10_withStrips 35 = .ok (.aaload, 1) := by decide +kernel
theorem dX10_withStrips_36 : decode cX10_withStrips 36 = .ok (.getfield 103, 3) := by decide +kernel
theorem dX10_withStrips_39 : decode cX10_withStrips 39 = .ok (.if_icmp .ge 27, 3) := by decide +kernel
theorem dX10_withStrips_42 : decode cX10_withStrips 42 = .ok (.ldc2_w 308, 3) := by decide +kernel
theorem dX10_withStrips_45 : decode cX10_withStrips 45 = .ok (.lload_n 3, 1) := by decide +kernel
theorem dX10_withStrips_46 : decode cX10_withStrips 46 = .ok (.lmul, 1) := by decide +kernel
theorem dX10_withStrips_47 : decode cX10_withStrips 47 = .ok (.aload_n 2, 1) := by decide +kernel
theorem dX10_withStrips_48 : decode cX10_withStrips 48 = .ok (.iload 5, 2) := by decide +kernel
theorem dX10_withStrips_50 : decode cX10_withStrips 50 = .ok (.aaload, 1) := by decide +kernel
theorem dX10_withStrips_51 : decode cX10_withStrips 51 = .ok (.getfield 92, 3) := by decide +kernel
theorem dX10_withStrips_54 : decode cX10_withStrips 54 = .ok (.iload 6, 2) := by decide +kernel
theorem dX10_withStrips_56 : decode cX10_withStrips 56 = .ok (.iaload, 1) := by decide +kernel
theorem dX10_withStrips_57 : decode cX10_withStrips 57 = .ok (.i2l, 1) := by decide +kernel
theorem dX10_withStrips_58 : decode cX10_withStrips 58 = .ok (.ladd, 1) := by decide +kernel
theorem dX10_withStrips_59 : decode cX10_withStrips 59 = .ok (.lstore_n 3, 1) := by decide +kernel
theorem dX10_withStrips_60 : decode cX10_withStrips 60 = .ok (.iinc 6 1, 3) := by decide +kernel
theorem dX10_withStrips_63 : decode cX10_withStrips 63 = .ok (.goto (-33), 3) := by decide +kernel
theorem dX10_withStrips_66 : decode cX10_withStrips 66 = .ok (.iinc 5 1, 3) := by decide +kernel
theorem dX10_withStrips_69 : decode cX10_withStrips 69 = .ok (.goto (-64), 3) := by decide +kernel
theorem dX10_withStrips_72 : decode cX10_withStrips 72 = .ok (.lload_n 3, 1) := by decide +kernel
theorem dX10_withStrips_73 : decode cX10_withStrips 73 = .ok (.lreturn, 1) := by decide +kernel
theorem dX11_init_0 : decode cX11_init 0 = .ok (.aload_n 0, 1) := by decide +kernel
theorem dX11_init_1 : decode cX11_init 1 = .ok (.invokespecial 1, 3) := by decide +kernel
theorem dX11_init_4 : decode cX11_init 4 = .ok (.aload_n 0, 1) := by decide +kernel
theorem dX11_init_5 : decode cX11_init 5 = .ok (.sipush 1568, 3) := by decide +kernel
theorem dX11_init_8 : decode cX11_init 8 = .ok (.newarray .int, 2) := by decide +kernel
theorem dX11_init_10 : decode cX11_init 10 = .ok (.putfield 7, 3) := by decide +kernel
theorem dX11_init_13 : decode cX11_init 13 = .ok (.aload_n 0, 1) := by decide +kernel
theorem dX11_init_14 : decode cX11_init 14 = .ok (.bipush 6, 2) := by decide +kernel
theorem dX11_init_16 : decode cX11_init 16 = .ok (.newarray .int, 2) := by decide +kernel
theorem dX11_init_18 : decode cX11_init 18 = .ok (.putfield 13, 3) := by decide +kernel
theorem dX11_init_21 : decode cX11_init 21 = .ok (.aload_n 0, 1) := by decide +kernel
theorem dX11_init_22 : decode cX11_init 22 = .ok (.sipush 240, 3) := by decide +kernel
theorem dX11_init_25 : decode cX11_init 25 = .ok (.newarray .int, 2) := by decide +kernel
theorem dX11_init_27 : decode cX11_init 27 = .ok (.putfield 16, 3) := by decide +kernel
theorem dX11_init_30 : decode cX11_init 30 = .ok (.aload_n 0, 1) := by decide +kernel
theorem dX11_init_31 : decode cX11_init 31 = .ok (.iconst 4, 1) := by decide +kernel
theorem dX11_init_32 : decode cX11_init 32 = .ok (.newarray .int, 2) := by decide +kernel
theorem dX11_init_34 : decode cX11_init 34 = .ok (.putfield 19, 3) := by decide +kernel
theorem dX11_init_37 : decode cX11_init 37 = .ok (.aload_n 0, 1) := by decide +kernel
theorem dX11_init_38 : decode cX11_init 38 = .ok (.sipush 240, 3) := by decide +kernel
theorem dX11_init_41 : decode cX11_init 41 = .ok (.newarray .int, 2) := by decide +kernel
theorem dX11_init_43 : decode cX11_init 43 = .ok (.putfield 22, 3) := by decide +kernel
theorem dX11_init_46 : decode cX11_init 46 = .ok (.aload_n 0, 1) := by decide +kernel
theorem dX11_init_47 : decode cX11_init 47 = .ok (.bipush 6, 2) := by decide +kernel
theorem dX11_init_49 : decode cX11_init 49 = .ok (.newarray .int, 2) := by decide +kernel
theorem dX11_init_51 : decode cX11_init 51 = .ok (.putfield 25, 3) := by decide +kernel
theorem dX11_init_54 : decode cX11_init 54 = .ok (.aload_n 0, 1) := by decide +kernel
theorem dX11_init_55 : decode cX11_init 55 = .ok (.lconst 1, 1) := by decide +kernel
theorem dX11_init_56 : decode cX11_init 56 = .ok (.putfield 28, 3) := by decide +kernel
theorem dX11_init_59 : decode cX11_init 59 = .ok (.aload_n 0, 1) := by decide +kernel
theorem dX11_init_60 : decode cX11_init 60 = .ok (.bipush 40, 2) := by decide +kernel
theorem dX11_init_62 : decode cX11_init 62 = .ok (.newarray .int, 2) := by decide +kernel
theorem dX11_init_64 : decode cX11_init 64 = .ok (.putfield 32, 3) := by decide +kernel
theorem dX11_init_67 : decode cX11_init 67 = .ok (.aload_n 0, 1) := by decide +kernel
theorem dX11_init_68 : decode cX11_init 68 = .ok (.bipush 21, 2) := by decide +kernel
theorem dX11_init_70 : decode cX11_init 70 = .ok (.newarray .int, 2) := by decide +kernel
theorem dX11_init_72 : decode cX11_init 72 = .ok (.putfield 35, 3) := by decide +kernel
theorem dX11_init_75 : decode cX11_init 75 = .ok (.aload_n 0, 1) := by decide +kernel
theorem dX11_init_76 : decode cX11_init 76 = .ok (.bipush 8, 2) := by decide +kernel
theorem dX11_init_78 : decode cX11_init 78 = .ok (.newarray .int, 2) := by decide +kernel
theorem dX11_init_80 : decode cX11_init 80 = .ok (.putfield 38, 3) := by decide +kernel
theorem dX11_init_83 : decode cX11_init 83 = .ok (.aload_n 0, 1) := by decide +kernel
theorem dX11_init_84 : decode cX11_init 84 = .ok (.bipush 9, 2) := by decide +kernel
theorem dX11_init_86 : decode cX11_init 86 = .ok (.newarray .int, 2) := by decide +kernel
theorem dX11_init_88 : decode cX11_init 88 = .ok (.putfield 41, 3) := by decide +kernel
theorem dX11_init_91 : decode cX11_init 91 = .ok (.aload_n 0, 1) := by decide +kernel
theorem dX11_init_92 : decode cX11_init 92 = .ok (.bipush 7, 2) := by decide +kernel
theorem dX11_init_94 : decode cX11_init 94 = .ok (.newarray .int, 2) := by decide +kernel
theorem dX11_init_96 : decode cX11_init 96 = .ok (.putfield 44, 3) := by decide +kernel
theorem dX11_init_99 : decode cX11_init 99 = .ok (.aload_n 0, 1) := by decide +kernel
theorem dX11_init_100 : decode cX11_init 100 = .ok (.bipush 6, 2) := by decide +kernel
theorem dX11_init_102 : decode cX11_init 102 = .ok (.newarray .int, 2) := by decide +kernel
theorem dX11_init_104 : decode cX11_init 104 = .ok (.putfield 47, 3) := by decide +kernel
theorem dX11_init_107 : decode cX11_init 107 = .ok (.aload_n 0, 1) := by decide +kernel
theorem dX11_init_108 : decode cX11_init 108 = .ok (.bipush 7, 2) := by decide +kernel
theorem dX11_init_110 : decode cX11_init 110 = .ok (.newarray .int, 2) := by decide +kernel
theorem dX11_init_112 : decode cX11_init 112 = .ok (.putfield 50, 3) := by decide +kernel
theorem dX11_init_115 : decode cX11_init 115 = .ok (.aload_n 0, 1) := by decide +kernel
theorem dX11_init_116 : decode cX11_init 116 = .ok (.bipush 6, 2) := by decide +kernel
theorem dX11_init_118 : decode cX11_init 118 = .ok (.newarray .int, 2) := by decide +kernel
theorem dX11_init_120 : decode cX11_init 120 = .ok (.putfield 53, 3) := by decide +kernel
theorem dX11_init_123 : decode cX11_init 123 = .ok (.iconst 0, 1) := by decide +kernel
theorem dX11_init_124 : decode cX11_init 124 = .ok (.istore_n 1, 1) := by decide +kernel
theorem dX11_init_125 : decode cX11_init 125 = .ok (.iload_n 1, 1) := by decide +kernel
theorem dX11_init_126 : decode cX11_init 126 = .ok (.bipush 6, 2) := by decide +kernel
theorem dX11_init_128 : decode cX11_init 128 = .ok (.if_icmp .ge 16, 3) := by decide +kernel
theorem dX11_init_131 : decode cX11_init 131 = .ok (.aload_n 0, 1) := by decide +kernel
theorem dX11_init_132 : decode cX11_init 132 = .ok (.getfield 13, 3) := by decide +kernel
theorem dX11_init_135 : decode cX11_init 135 = .ok (.iload_n 1, 1) := by decide +kernel
theorem dX11_init_136 : decode cX11_init 136 = .ok (.iconst (-1), 1) := by decide +kernel
theorem dX11_init_137 : decode cX11_init 137 = .ok (.iastore, 1) := by decide +kernel
theorem dX11_init_138 : decode cX11_init 138 = .ok (.iinc 1 1, 3) := by decide +kernel
theorem dX11_init_141 : decode cX11_init 141 = .ok (.goto (-16), 3) := by decide +kernel
theorem dX11_init_144 : decode cX11_init 144 = .ok (.iconst 0, 1) := by decide +kernel
theorem dX11_init_145 : decode cX11_init 145 = .ok (.istore_n 1, 1) := by decide +kernel
theorem dX11_init_146 : decode cX11_init 146 = .ok (.iload_n 1, 1) := by decide +kernel
theorem dX11_init_147 : decode cX11_init 147 = .ok (.iconst 4, 1) := by decide +kernel
theorem dX11_init_148 : decode cX11_init 148 = .ok (.if_icmp .ge 16, 3) := by decide +kernel
theorem dX11_init_151 : decode cX11_init 151 = .ok (.aload_n 0, 1) := by decide +kernel
theorem dX11_init_152 : decode cX11_init 152 = .ok (.getfield 19, 3) := by decide +kernel
theorem dX11_init_155 : decode cX11_init 155 = .ok (.iload_n 1, 1) := by decide +kernel
theorem dX11_init_156 : decode cX11_init 156 = .ok (.iconst (-1), 1) := by decide +kernel
theorem dX11_init_157 : decode cX11_init 157 = .ok (.iastore, 1) := by decide +kernel
theorem dX11_init_158 : decode cX11_init 158 = .ok (.iinc 1 1, 3) := by decide +kernel
theorem dX11_init_161 : decode cX11_init 161 = .ok (.goto (-15), 3) := by decide +kernel
theorem dX11_init_164 : decode cX11_init 164 = .ok (.return_, 1) := by decide +kernel
theorem dX11_in_0 : decode cX11_in 0 = .ok (.lload_n 0, 1) := by decide +kernel
theorem dX11_in_1 : decode cX11_in 1 = .ok (.lload_n 2, 1) := by decide +kernel
theorem dX11_in_2 : decode cX11_in 2 = .ok (.lcmp, 1) := by decide +kernel
theorem dX11_in_3 : decode cX11_in 3 = .ok (.ifCond .lt 14, 3) := by decide +kernel
theorem dX11_in_6 : decode cX11_in 6 = .ok (.lload_n 0, 1) := by decide +kernel
theorem dX11_in_7 : decode cX11_in 7 = .ok (.lload 4, 2) := by decide +kernel
theorem dX11_in_9 : decode cX11_in 9 = .ok (.lcmp, 1) := by decide +kernel
theorem dX11_in_10 : decode cX11_in 10 = .ok (.ifCond .gt 7, 3) := by decide +kernel
theorem dX11_in_13 : decode cX11_in 13 = .ok (.iconst 1, 1) := by decide +kernel
theorem dX11_in_14 : decode cX11_in 14 = .ok (.goto 4, 3) := by decide +kernel
theorem dX11_in_17 : decode cX11_in 17 = .ok (.iconst 0, 1) := by decide +kernel
theorem dX11_in_18 : decode cX11_in 18 = .ok (.ireturn, 1) := by decide +kernel
theorem dX11_has_0 : decode cX11_has 0 = .ok (.iload_n 0, 1) := by decide +kernel
theorem dX11_has_1 : decode cX11_has 1 = .ok (.iload_n 1, 1) := by decide +kernel
theorem dX11_has_2 : decode cX11_has 2 = .ok (.ishr, 1) := by decide +kernel
theorem dX11_has_3 : decode cX11_has 3 = .ok (.iconst 1, 1) := by decide +kernel
theorem dX11_has_4 : decode cX11_has 4 = .ok (.iand, 1) := by decide +kernel
theorem dX11_has_5 : decode cX11_has 5 = .ok (.iconst 1, 1) := by decide +kernel
theorem dX11_has_6 : decode cX11_has 6 = .ok (.if_icmp .ne 7, 3) := by decide +kernel
theorem dX11_has_9 : decode cX11_has 9 = .ok (.iconst 1, 1) := by decide +kernel
theorem dX11_has_10 : decode cX11_has 10 = .ok (.goto 4, 3) := by decide +kernel
theorem dX11_has_13 : decode cX11_has 13 = .ok (.iconst 0, 1) := by decide +kernel
theorem dX11_has_14 : decode cX11_has 14 = .ok (.ireturn, 1) := by decide +kernel
theorem dX11_finds_0 : decode cX11_finds 0 = .ok (.aload_n 0, 1) := by decide +kernel
theorem dX11_finds_1 : decode cX11_finds 1 = .ok (.iload_n 1, 1) := by decide +kernel
theorem dX11_finds_2 : decode cX11_finds 2 = .ok (.putfield 56, 3) := by decide +kernel
theorem dX11_finds_5 : decode cX11_finds 5 = .ok (.aload_n 0, 1) := by decide +kernel
theorem dX11_finds_6 : decode cX11_finds 6 = .ok (.getfield 25, 3) := by decide +kernel
theorem dX11_finds_9 : decode cX11_finds 9 = .ok (.iload_n 1, 1) := by decide +kernel
theorem dX11_finds_10 : decode cX11_finds 10 = .ok (.dup2, 1) := by decide +kernel
theorem dX11_finds_11 : decode cX11_finds 11 = .ok (.iaload, 1) := by decide +kernel
theorem dX11_finds_12 : decode cX11_finds 12 = .ok (.iconst 1, 1) := by decide +kernel
theorem dX11_finds_13 : decode cX11_finds 13 = .ok (.iadd, 1) := by decide +kernel
theorem dX11_finds_14 : decode cX11_finds 14 = .ok (.iastore, 1) := by decide +kernel
theorem dX11_finds_15 : decode cX11_finds 15 = .ok (.bipush (-3), 2) := by decide +kernel
theorem dX11_finds_17 : decode cX11_finds 17 = .ok (.ireturn, 1) := by decide +kernel
theorem dX11_tells_0 : decode cX11_tells 0 = .ok (.aload_n 0, 1) := by decide +kernel
theorem dX11_tells_1 : decode cX11_tells 1 = .ok (.iload_n 1, 1) := by decide +kernel
theorem dX11_tells_2 : decode cX11_tells 2 = .ok (.putfield 60, 3) := by decide +kernel
theorem dX11_tells_5 : decode cX11_tells 5 = .ok (.iconst 1, 1) := by decide +kernel
theorem dX11_tells_6 : decode cX11_tells 6 = .ok (.ireturn, 1) := by decide +kernel
theorem dX11_tellsPart_0 : decode cX11_tellsPart 0 = .ok (.lload_n 1, 1) := by decide +kernel
theorem dX11_tellsPart_1 : decode cX11_tellsPart 1 = .ok (.lstore 5, 2) := by decide +kernel
theorem dX11_tellsPart_3 : decode cX11_tellsPart 3 = .ok (.lload_n 3, 1) := by decide +kernel
theorem dX11_tellsPart_4 : decode cX11_tellsPart 4 = .ok (.lstore 7, 2) := by decide +kernel
theorem dX11_tellsPart_6 : decode cX11_tellsPart 6 = .ok (.lload 7, 2) := by decide +kernel
theorem dX11_tellsPart_8 : decode cX11_tellsPart 8 = .ok (.lconst 0, 1) := by decide +kernel
theorem dX11_tellsPart_9 : decode cX11_tellsPart 9 = .ok (.lcmp, 1) := by decide +kernel
theorem dX11_tellsPart_10 : decode cX11_tellsPart 10 = .ok (.ifCond .eq 21, 3) := by decide +kernel
theorem dX11_tellsPart_13 : decode cX11_tellsPart 13 = .ok (.lload 5, 2) := by decide +kernel
theorem dX11_tellsPart_15 : decode cX11_tellsPart 15 = .ok (.lload 7, 2) := by decide +kernel
theorem dX11_tellsPart_17 : decode cX11_tellsPart 17 = .ok (.lrem, 1) := by decide +kernel
theorem dX11_tellsPart_18 : decode cX11_tellsPart 18 = .ok (.lstore 9, 2) := by decide +kernel
theorem dX11_tellsPart_20 : decode cX11_tellsPart 20 = .ok (.lload 7, 2) := by decide +kernel
theorem dX11_tellsPart_22 : decode cX11_tellsPart 22 = .ok (.lstore 5, 2) := by decide +kernel
theorem dX11_tellsPart_24 : decode cX11_tellsPart 24 = .ok (.lload 9, 2) := by decide +kernel
theorem dX11_tellsPart_26 : decode cX11_tellsPart 26 = .ok (.lstore 7, 2) := by decide +kernel
theorem dX11_tellsPart_28 : decode cX11_tellsPart 28 = .ok (.goto (-22), 3) := by decide +kernel
theorem dX11_tellsPart_31 : decode cX11_tellsPart 31 = .ok (.aload_n 0, 1) := by decide +kernel
theorem dX11_tellsPart_32 : decode cX11_tellsPart 32 = .ok (.lload_n 1, 1) := by decide +kernel
theorem dX11_tellsPart_33 : decode cX11_tellsPart 33 = .ok (.lload 5, 2) := by decide +kernel
theorem dX11_tellsPart_35 : decode cX11_tellsPart 35 = .ok (.ldiv, 1) := by decide +kernel
theorem dX11_tellsPart_36 : decode cX11_tellsPart 36 = .ok (.putfield 63, 3) := by decide +kernel
theorem dX11_tellsPart_39 : decode cX11_tellsPart 39 = .ok (.aload_n 0, 1) := by decide +kernel
theorem dX11_tellsPart_40 : decode cX11_tellsPart 40 = .ok (.lload_n 3, 1) := by decide +kernel
theorem dX11_tellsPart_41 : decode cX11_tellsPart 41 = .ok (.lload 5, 2) := by decide +kernel
theorem dX11_tellsPart_43 : decode cX11_tellsPart 43 = .ok (.ldiv, 1) := by decide +kernel
theorem dX11_tellsPart_44 : decode cX11_tellsPart 44 = .ok (.putfield 28, 3) := by decide +kernel
theorem dX11_tellsPart_47 : decode cX11_tellsPart 47 = .ok (.iconst 1, 1) := by decide +kernel
theorem dX11_tellsPart_48 : decode cX11_tellsPart 48 = .ok (.ireturn, 1) := by decide +kernel
theorem dX11_bring_0 : decode cX11_bring 0 = .ok (.iconst 0, 1) := by decide +kernel
theorem dX11_bring_1 : decode cX11_bring 1 = .ok (.istore_n 3, 1) := by decide +kernel
theorem dX11_bring_2 : decode cX11_bring 2 = .ok (.iload_n 3, 1) := by decide +kernel
theorem dX11_bring_3 : decode cX11_bring 3 = .ok (.sipush 392, 3) := by decide +kernel
theorem dX11_bring_6 : decode cX11_bring 6 = .ok (.if_icmp .ge 25, 3) := by decide +kernel
theorem dX11_bring_9 : decode cX11_bring 9 = .ok (.aload_n 0, 1) := by decide +kernel
theorem dX11_bring_10 : decode cX11_bring 10 = .ok (.getfield 7, 3) := by decide +kernel
theorem dX11_bring_13 : decode cX11_bring 13 = .ok (.iload_n 2, 1) := by decide +kernel
theorem dX11_bring_14 : decode cX11_bring 14 = .ok (.iload_n 3, 1) := by decide +kernel
theorem dX11_bring_15 : decode cX11_bring 15 = .ok (.iadd, 1) := by decide +kernel
theorem dX11_bring_16 : decode cX11_bring 16 = .ok (.aload_n 0, 1) := by decide +kernel
theorem dX11_bring_17 : decode cX11_bring 17 = .ok (.getfield 7, 3) := by decide +kernel
theorem dX11_bring_20 : decode cX11_bring 20 = .ok (.iload_n 1, 1) := by decide +kernel
theorem dX11_bring_21 : decode cX11_bring 21 = .ok (.iload_n 3, 1) := by decide +kernel
theorem dX11_bring_22 : decode cX11_bring 22 = .ok (.iadd, 1) := by decide +kernel
theorem dX11_bring_23 : decode cX11_bring 23 = .ok (.iaload, 1) := by decide +kernel
theorem dX11_bring_24 : decode cX11_bring 24 = .ok (.iastore, 1) := by decide +kernel
theorem dX11_bring_25 : decode cX11_bring 25 = .ok (.iinc 3 1, 3) := by decide +kernel
theorem dX11_bring_28 : decode cX11_bring 28 = .ok (.goto (-26), 3) := by decide +kernel
theorem dX11_bring_31 : decode cX11_bring 31 = .ok (.return_, 1) := by decide +kernel
theorem dX11_isRow_0 : decode cX11_isRow 0 = .ok (.iload_n 0, 1) := by decide +kernel
theorem dX11_isRow_1 : decode cX11_isRow 1 = .ok (.i2l, 1) := by decide +kernel
theorem dX11_isRow_2 : decode cX11_isRow 2 = .ok (.lconst 0, 1) := by decide +kernel
theorem dX11_isRow_3 : decode cX11_isRow 3 = .ok (.ldc2_w 66, 3) := by decide +kernel
theorem dX11_isRow_6 : decode cX11_isRow 6 = .ok (.invokestatic 68, 3) := by decide +kernel
theorem dX11_isRow_9 : decode cX11_isRow 9 = .ok (.ireturn, 1) := by decide +kernel
theorem dX11_isText_0 : decode cX11_isText 0 = .ok (.iload_n 0, 1) := by decide +kernel
theorem dX11_isText_1 : decode cX11_isText 1 = .ok (.i2l, 1) := by decide +kernel
theorem dX11_isText_2 : decode cX11_isText 2 = .ok (.lconst 0, 1) := by decide +kernel
theorem dX11_isText_3 : decode cX11_isText 3 = .ok (.ldc2_w 72, 3) := by decide +kernel
theorem dX11_isText_6 : decode cX11_isText 6 = .ok (.invokestatic 68, 3) := by decide +kernel
theorem dX11_isText_9 : decode cX11_isText 9 = .ok (.ireturn, 1) := by decide +kernel
theorem dX11_isRod_0 : decode cX11_isRod 0 = .ok (.iload_n 1, 1) := by decide +kernel
theorem dX11_isRod_1 : decode cX11_isRod 1 = .ok (.i2l, 1) := by decide +kernel
theorem dX11_isRod_2 : decode cX11_isRod 2 = .ok (.lconst 0, 1) := by decide +kernel
theorem dX11_isRod_3 : decode cX11_isRod 3 = .ok (.aload_n 0, 1) := by decide +kernel
theorem dX11_isRod_4 : decode cX11_isRod 4 = .ok (.getfield 7, 3) := by decide +kernel
theorem dX11_isRod_7 : decode cX11_isRod 7 = .ok (.iconst 0, 1) := by decide +kernel
theorem dX11_isRod_8 : decode cX11_isRod 8 = .ok (.iaload, 1) := by decide +kernel
theorem dX11_isRod_9 : decode cX11_isRod 9 = .ok (.iconst 1, 1) := by decide +kernel
theorem dX11_isRod_10 : decode cX11_isRod 10 = .ok (.isub, 1) := by decide +kernel
theorem dX11_isRod_11 : decode cX11_isRod 11 = .ok (.i2l, 1) := by decide +kernel
theorem dX11_isRod_12 : decode cX11_isRod 12 = .ok (.invokestatic 68, 3) := by decide +kernel
theorem dX11_isRod_15 : decode cX11_isRod 15 = .ok (.ireturn, 1) := by decide +kernel
theorem dX11_isLine_0 : decode cX11_isLine 0 = .ok (.iload_n 0, 1) := by decide +kernel
theorem dX11_isLine_1 : decode cX11_isLine 1 = .ok (.i2l, 1) := by decide +kernel
theorem dX11_isLine_2 : decode cX11_isLine 2 = .ok (.lconst 1, 1) := by decide +kernel
theorem dX11_isLine_3 : decode cX11_isLine 3 = .ok (.ldc2_w 74, 3) := by decide +kernel
theorem dX11_isLine_6 : decode cX11_isLine 6 = .ok (.invokestatic 68, 3) := by decide +kernel
theorem dX11_isLine_9 : decode cX11_isLine 9 = .ok (.ireturn, 1) := by decide +kernel
theorem dX11_row_0 : decode cX11_row 0 = .ok (.iload_n 1, 1) := by decide +kernel
theorem dX11_row_1 : decode cX11_row 1 = .ok (.invokestatic 76, 3) := by decide +kernel
theorem dX11_row_4 : decode cX11_row 4 = .ok (.ifCond .eq 9, 3) := by decide +kernel
theorem dX11_row_7 : decode cX11_row 7 = .ok (.iload_n 2, 1) := by decide +kernel
theorem dX11_row_8 : decode cX11_row 8 = .ok (.bipush 40, 2) := by decide +kernel
theorem dX11_row_10 : decode cX11_row 10 = .ok (.if_icmp .le 5, 3) := by decide +kernel
theorem dX11_row_13 : decode cX11_row 13 = .ok (.iconst (-1), 1) := by decide +kernel
theorem dX11_row_14 : decode cX11_row 14 = .ok (.ireturn, 1) := by decide +kernel
theorem dX11_row_15 : decode cX11_row 15 = .ok (.iload_n 2, 1) := by decide +kernel
theorem dX11_row_16 : decode cX11_row 16 = .ok (.ifCond .ge 9, 3) := by decide +kernel
theorem dX11_row_19 : decode cX11_row 19 = .ok (.aload_n 0, 1) := by decide +kernel
theorem dX11_row_20 : decode cX11_row 20 = .ok (.iconst 5, 1) := by decide +kernel
theorem dX11_row_21 : decode cX11_row 21 = .ok (.invokevirtual 80, 3) := by decide +kernel
theorem dX11_row_24 : decode cX11_row 24 = .ok (.ireturn, 1) := by decide +kernel
theorem dX11_row_25 : decode cX11_row 25 = .ok (.aload_n 0, 1) := by decide +kernel
theorem dX11_row_26 : decode cX11_row 26 = .ok (.getfield 13, 3) := by decide +kernel
theorem dX11_row_29 : decode cX11_row 29 = .ok (.iload_n 1, 1) := by decide +kernel
theorem dX11_row_30 : decode cX11_row 30 = .ok (.iload_n 2, 1) := by decide +kernel
theorem dX11_row_31 : decode cX11_row 31 = .ok (.iastore, 1) := by decide +kernel
theorem dX11_row_32 : decode cX11_row 32 = .ok (.iconst 0, 1) := by decide +kernel
theorem dX11_row_33 : decode cX11_row 33 = .ok (.istore_n 3, 1) := by decide +kernel
theorem dX11_row_34 : decode cX11_row 34 = .ok (.iload_n 3, 1) := by decide +kernel
theorem dX11_row_35 : decode cX11_row 35 = .ok (.bipush 40, 2) := by decide +kernel
theorem dX11_row_37 : decode cX11_row 37 = .ok (.if_icmp .ge 21, 3) := by decide +kernel
theorem dX11_row_40 : decode cX11_row 40 = .ok (.aload_n 0, 1) := by decide +kernel
theorem dX11_row_41 : decode cX11_row 41 = .ok (.getfield 16, 3) := by decide +kernel
theorem dX11_row_44 : decode cX11_row 44 = .ok (.bipush 40, 2) := by decide +kernel
theorem dX11_row_46 : decode cX11_row 46 = .ok (.iload_n 1, 1) := by decide +kernel
theorem dX11_row_47 : decode cX11_row 47 = .ok (.imul, 1) := by decide +kernel
theorem dX11_row_48 : decode cX11_row 48 = .ok (.iload_n 3, 1) := by decide +kernel
theorem dX11_row_49 : decode cX11_row 49 = .ok (.iadd, 1) := by decide +kernel
theorem dX11_row_50 : decode cX11_row 50 = .ok (.iconst 0, 1) := by decide +kernel
theorem dX11_row_51 : decode cX11_row 51 = .ok (.iastore, 1) := by decide +kernel
theorem dX11_row_52 : decode cX11_row 52 = .ok (.iinc 3 1, 3) := by decide +kernel
theorem dX11_row_55 : decode cX11_row 55 = .ok (.goto (-21), 3) := by decide +kernel
theorem dX11_row_58 : decode cX11_row 58 = .ok (.iload_n 2, 1) := by decide +kernel
theorem dX11_row_59 : decode cX11_row 59 = .ok (.ireturn, 1) := by decide +kernel
theorem dX11_lay_0 : decode cX11_lay 0 = .ok (.iload_n 1, 1) := by decide +kernel
theorem dX11_lay_1 : decode cX11_lay 1 = .ok (.invokestatic 76, 3) := by decide +kernel
theorem dX11_lay_4 : decode cX11_lay 4 = .ok (.ifCond .ne 5, 3) := by decide +kernel
theorem dX11_lay_7 : decode cX11_lay 7 = .ok (.iconst (-1), 1) := by decide +kernel
theorem dX11_lay_8 : decode cX11_lay 8 = .ok (.ireturn, 1) := by decide +kernel
theorem dX11_lay_9 : decode cX11_lay 9 = .ok (.aload_n 0, 1) := by decide +kernel
theorem dX11_lay_10 : decode cX11_lay 10 = .ok (.getfield 13, 3) := by decide +kernel
theorem dX11_lay_13 : decode cX11_lay 13 = .ok (.iload_n 1, 1) := by decide +kernel
theorem dX11_lay_14 : decode cX11_lay 14 = .ok (.iaload, 1) := by decide +kernel
theorem dX11_lay_15 : decode cX11_lay 15 = .ok (.ifCond .ge 9, 3) := by decide +kernel
theorem dX11_lay_18 : decode cX11_lay 18 = .ok (.aload_n 0, 1) := by decide +kernel
theorem dX11_lay_19 : decode cX11_lay 19 = .ok (.iconst 1, 1) := by decide +kernel
theorem dX11_lay_20 : decode cX11_lay 20 = .ok (.invokevirtual 80, 3) := by decide +kernel
theorem dX11_lay_23 : decode cX11_lay 23 = .ok (.ireturn, 1) := by decide +kernel
theorem dX11_lay_24 : decode cX11_lay 24 = .ok (.iload_n 2, 1) := by decide +kernel
theorem dX11_lay_25 : decode cX11_lay 25 = .ok (.i2l, 1) := by decide +kernel
theorem dX11_lay_26 : decode cX11_lay 26 = .ok (.lconst 0, 1) := by decide +kernel
theorem dX11_lay_27 : decode cX11_lay 27 = .ok (.aload_n 0, 1) := by decide +kernel
theorem dX11_lay_28 : decode cX11_lay 28 = .ok (.getfield 13, 3) := by decide +kernel
theorem dX11_lay_31 : decode cX11_lay 31 = .ok (.iload_n 1, 1) := by decide +kernel
theorem dX11_lay_32 : decode cX11_lay 32 = .ok (.iaload, 1) := by decide +kernel
theorem dX11_lay_33 : decode cX11_lay 33 = .ok (.iconst 1, 1) := by decide +kernel
theorem dX11_lay_34 : decode cX11_lay 34 = .ok (.isub, 1) := by decide +kernel
theorem dX11_lay_35 : decode cX11_lay 35 = .ok (.i2l, 1) := by decide +kernel
theorem dX11_lay_36 : decode cX11_lay 36 = .ok (.invokestatic 68, 3) := by decide +kernel
theorem dX11_lay_39 : decode cX11_lay 39 = .ok (.ifCond .ne 9, 3) := by decide +kernel
theorem dX11_lay_42 : decode cX11_lay 42 = .ok (.aload_n 0, 1) := by decide +kernel
theorem dX11_lay_43 : decode cX11_lay 43 = .ok (.iconst 2, 1) := by decide +kernel
theorem dX11_lay_44 : decode cX11_lay 44 = .ok (.invokevirtual 80, 3) := by decide +kernel
theorem dX11_lay_47 : decode cX11_lay 47 = .ok (.ireturn, 1) := by decide +kernel
theorem dX11_lay_48 : decode cX11_lay 48 = .ok (.aload_n 0, 1) := by decide +kernel
theorem dX11_lay_49 : decode cX11_lay 49 = .ok (.getfield 16, 3) := by decide +kernel
theorem dX11_lay_52 : decode cX11_lay 52 = .ok (.bipush 40, 2) := by decide +kernel
theorem dX11_lay_54 : decode cX11_lay 54 = .ok (.iload_n 1, 1) := by decide +kernel
theorem dX11_lay_55 : decode cX11_lay 55 = .ok (.imul, 1) := by decide +kernel
theorem dX11_lay_56 : decode cX11_lay 56 = .ok (.iload_n 2, 1) := by decide +kernel
theorem dX11_lay_57 : decode cX11_lay 57 = .ok (.iadd, 1) := by decide +kernel
theorem dX11_lay_58 : decode cX11_lay 58 = .ok (.iaload, 1) := by decide +kernel
theorem dX11_lay_59 : decode cX11_lay 59 = .ok (.istore 4, 2) := by decide +kernel
theorem dX11_lay_61 : decode cX11_lay 61 = .ok (.aload_n 0, 1) := by decide +kernel
theorem dX11_lay_62 : decode cX11_lay 62 = .ok (.getfield 16, 3) := by decide +kernel
theorem dX11_lay_65 : decode cX11_lay 65 = .ok (.bipush 40, 2) := by decide +kernel
theorem dX11_lay_67 : decode cX11_lay 67 = .ok (.iload_n 1, 1) := by decide +kernel
theorem dX11_lay_68 : decode cX11_lay 68 = .ok (.imul, 1) := by decide +kernel
theorem dX11_lay_69 : decode cX11_lay 69 = .ok (.iload_n 2, 1) := by decide +kernel
theorem dX11_lay_70 : decode cX11_lay 70 = .ok (.iadd, 1) := by decide +kernel
theorem dX11_lay_71 : decode cX11_lay 71 = .ok (.iload_n 3, 1) := by decide +kernel
theorem dX11_lay_72 : decode cX11_lay 72 = .ok (.iastore, 1) := by decide +kernel
theorem dX11_lay_73 : decode cX11_lay 73 = .ok (.aload_n 0, 1) := by decide +kernel
theorem dX11_lay_74 : decode cX11_lay 74 = .ok (.iload 4, 2) := by decide +kernel
theorem dX11_lay_76 : decode cX11_lay 76 = .ok (.invokevirtual 83, 3) := by decide +kernel
theorem dX11_lay_79 : decode cX11_lay 79 = .ok (.ireturn, 1) := by decide +kernel
theorem dX11_at_0 : decode cX11_at 0 = .ok (.iload_n 1, 1) := by decide +kernel
theorem dX11_at_1 : decode cX11_at 1 = .ok (.invokestatic 76, 3) := by decide +kernel
theorem dX11_at_4 : decode cX11_at 4 = .ok (.ifCond .ne 5, 3) := by decide +kernel
theorem dX11_at_7 : decode cX11_at 7 = .ok (.iconst (-1), 1) := by decide +kernel
theorem dX11_at_8 : decode cX11_at 8 = .ok (.ireturn, 1) := by decide +kernel
theorem dX11_at_9 : decode cX11_at 9 = .ok (.aload_n 0, 1) := by decide +kernel
theorem dX11_at_10 : decode cX11_at 10 = .ok (.getfield 13, 3) := by decide +kernel
theorem dX11_at_13 : decode cX11_at 13 = .ok (.iload_n 1, 1) := by decide +kernel
theorem dX11_at_14 : decode cX11_at 14 = .ok (.iaload, 1) := by decide +kernel
theorem dX11_at_15 : decode cX11_at 15 = .ok (.ifCond .ge 9, 3) := by decide +kernel
theorem dX11_at_18 : decode cX11_at 18 = .ok (.aload_n 0, 1) := by decide +kernel
theorem dX11_at_19 : decode cX11_at 19 = .ok (.iconst 1, 1) := by decide +kernel
theorem dX11_at_20 : decode cX11_at 20 = .ok (.invokevirtual 80, 3) := by decide +kernel
theorem dX11_at_23 : decode cX11_at 23 = .ok (.ireturn, 1) := by decide +kernel
theorem dX11_at_24 : decode cX11_at 24 = .ok (.iload_n 2, 1) := by decide +kernel
theorem dX11_at_25 : decode cX11_at 25 = .ok (.i2l, 1) := by decide +kernel
theorem dX11_at_26 : decode cX11_at 26 = .ok (.lconst 0, 1) := by decide +kernel
theorem dX11_at_27 : decode cX11_at 27 = .ok (.aload_n 0, 1) := by decide +kernel
theorem dX11_at_28 : decode cX11_at 28 = .ok (.getfield 13, 3) := by decide +kernel
theorem dX11_at_31 : decode cX11_at 31 = .ok (.iload_n 1, 1) := by decide +kernel
theorem dX11_at_32 : decode cX11_at 32 = .ok (.iaload, 1) := by decide +kernel
theorem dX11_at_33 : decode cX11_at 33 = .ok (.iconst 1, 1) := by decide +kernel
theorem dX11_at_34 : decode cX11_at 34 = .ok (.isub, 1) := by decide +kernel
theorem dX11_at_35 : decode cX11_at 35 = .ok (.i2l, 1) := by decide +kernel
theorem dX11_at_36 : decode cX11_at 36 = .ok (.invokestatic 68, 3) := by decide +kernel
theorem dX11_at_39 : decode cX11_at 39 = .ok (.ifCond .ne 9, 3) := by decide +kernel
theorem dX11_at_42 : decode cX11_at 42 = .ok (.aload_n 0, 1) := by decide +kernel
theorem dX11_at_43 : decode cX11_at 43 = .ok (.iconst 2, 1) := by decide +kernel
theorem dX11_at_44 : decode cX11_at 44 = .ok (.invokevirtual 80, 3) := by decide +kernel
theorem dX11_at_47 : decode cX11_at 47 = .ok (.ireturn, 1) := by decide +kernel
theorem dX11_at_48 : decode cX11_at 48 = .ok (.aload_n 0, 1) := by decide +kernel
theorem dX11_at_49 : decode cX11_at 49 = .ok (.aload_n 0, 1) := by decide +kernel
theorem dX11_at_50 : decode cX11_at 50 = .ok (.getfield 16, 3) := by decide +kernel
theorem dX11_at_53 : decode cX11_at 53 = .ok (.bipush 40, 2) := by decide +kernel
theorem dX11_at_55 : decode cX11_at 55 = .ok (.iload_n 1, 1) := by decide +kernel
theorem dX11_at_56 : decode cX11_at 56 = .ok (.imul, 1) := by decide +kernel
theorem dX11_at_57 : decode cX11_at 57 = .ok (.iload_n 2, 1) := by decide +kernel
theorem dX11_at_58 : decode cX11_at 58 = .ok (.iadd, 1) := by decide +kernel
theorem dX11_at_59 : decode cX11_at 59 = .ok (.iaload, 1) := by decide +kernel
theorem dX11_at_60 : decode cX11_at 60 = .ok (.invokevirtual 83, 3) := by decide +kernel
theorem dX11_at_63 : decode cX11_at 63 = .ok (.ireturn, 1) := by decide +kernel
theorem dX11_tear_0 : decode cX11_tear 0 = .ok (.iload_n 1, 1) := by decide +kernel
theorem dX11_tear_1 : decode cX11_tear 1 = .ok (.invokestatic 76, 3) := by decide +kernel
theorem dX11_tear_4 : decode cX11_tear 4 = .ok (.ifCond .ne 5, 3) := by decide +kernel
theorem dX11_tear_7 : decode cX11_tear 7 = .ok (.iconst (-1), 1) := by decide +kernel
theorem dX11_tear_8 : decode cX11_tear 8 = .ok (.ireturn, 1) := by decide +kernel
theorem dX11_tear_9 : decode cX11_tear 9 = .ok (.aload_n 0, 1) := by decide +kernel
theorem dX11_tear_10 : decode cX11_tear 10 = .ok (.getfield 13, 3) := by decide +kernel
theorem dX11_tear_13 : decode cX11_tear 13 = .ok (.iload_n 1, 1) := by decide +kernel
theorem dX11_tear_14 : decode cX11_tear 14 = .ok (.iaload, 1) := by decide +kernel
theorem dX11_tear_15 : decode cX11_tear 15 = .ok (.ifCond .ge 9, 3) := by decide +kernel
theorem dX11_tear_18 : decode cX11_tear 18 = .ok (.aload_n 0, 1) := by decide +kernel
theorem dX11_tear_19 : decode cX11_tear 19 = .ok (.iconst 1, 1) := by decide +kernel
theorem dX11_tear_20 : decode cX11_tear 20 = .ok (.invokevirtual 80, 3) := by decide +kernel
theorem dX11_tear_23 : decode cX11_tear 23 = .ok (.ireturn, 1) := by decide +kernel
theorem dX11_tear_24 : decode cX11_tear 24 = .ok (.aload_n 0, 1) := by decide +kernel
theorem dX11_tear_25 : decode cX11_tear 25 = .ok (.getfield 13, 3) := by decide +kernel
theorem dX11_tear_28 : decode cX11_tear 28 = .ok (.iload_n 1, 1) := by decide +kernel
theorem dX11_tear_29 : decode cX11_tear 29 = .ok (.iconst (-1), 1) := by decide +kernel
theorem dX11_tear_30 : decode cX11_tear 30 = .ok (.iastore, 1) := by decide +kernel
theorem dX11_tear_31 : decode cX11_tear 31 = .ok (.iconst 1, 1) := by decide +kernel
theorem dX11_tear_32 : decode cX11_tear 32 = .ok (.ireturn, 1) := by decide +kernel
theorem dX11_copy_0 : decode cX11_copy 0 = .ok (.iload_n 1, 1) := by decide +kernel
theorem dX11_copy_1 : decode cX11_copy 1 = .ok (.invokestatic 76, 3) := by decide +kernel
theorem dX11_copy_4 : decode cX11_copy 4 = .ok (.ifCond .eq 10, 3) := by decide +kernel
theorem dX11_copy_7 : decode cX11_copy 7 = .ok (.iload_n 3, 1) := by decide +kernel
theorem dX11_copy_8 : decode cX11_copy 8 = .ok (.invokestatic 76, 3) := by decide +kernel
theorem dX11_copy_11 : decode cX11_copy 11 = .ok (.ifCond .ne 5, 3) := by decide +kernel
theorem dX11_copy_14 : decode cX11_copy 14 = .ok (.iconst (-1), 1) := by decide +kernel
theorem dX11_copy_15 : decode cX11_copy 15 = .ok (.ireturn, 1) := by decide +kernel
theorem dX11_copy_16 : decode cX11_copy 16 = .ok (.iload 5, 2) := by decide +kernel
theorem dX11_copy_18 : decode cX11_copy 18 = .ok (.ifCond .ge 9, 3) := by decide +kernel
theorem dX11_copy_21 : decode cX11_copy 21 = .ok (.aload_n 0, 1) := by decide +kernel
theorem dX11_copy_22 : decode cX11_copy 22 = .ok (.iconst 5, 1) := by decide +kernel
theorem dX11_copy_23 : decode cX11_copy 23 = .ok (.invokevirtual 80, 3) := by decide +kernel
theorem dX11_copy_26 : decode cX11_copy 26 = .ok (.ireturn, 1) := by decide +kernel
theorem dX11_copy_27 : decode cX11_copy 27 = .ok (.aload_n 0, 1) := by decide +kernel
theorem dX11_copy_28 : decode cX11_copy 28 = .ok (.getfield 13, 3) := by decide +kernel
theorem dX11_copy_31 : decode cX11_copy 31 = .ok (.iload_n 1, 1) := by decide +kernel
theorem dX11_copy_32 : decode cX11_copy 32 = .ok (.iaload, 1) := by decide +kernel
theorem dX11_copy_33 : decode cX11_copy 33 = .ok (.ifCond .lt 12, 3) := by decide +kernel
theorem dX11_copy_36 : decode cX11_copy 36 = .ok (.aload_n 0, 1) := by decide +kernel
theorem dX11_copy_37 : decode cX11_copy 37 = .ok (.getfield 13, 3) := by decide +kernel
theorem dX11_copy_40 : decode cX11_copy 40 = .ok (.iload_n 3, 1) := by decide +kernel
theorem dX11_copy_41 : decode cX11_copy 41 = .ok (.iaload, 1) := by decide +kernel
theorem dX11_copy_42 : decode cX11_copy 42 = .ok (.ifCond .ge 9, 3) := by decide +kernel
theorem dX11_copy_45 : decode cX11_copy 45 = .ok (.aload_n 0, 1) := by decide +kernel
theorem dX11_copy_46 : decode cX11_copy 46 = .ok (.iconst 1, 1) := by decide +kernel
theorem dX11_copy_47 : decode cX11_copy 47 = .ok (.invokevirtual 80, 3) := by decide +kernel
theorem dX11_copy_50 : decode cX11_copy 50 = .ok (.ireturn, 1) := by decide +kernel
theorem dX11_copy_51 : decode cX11_copy 51 = .ok (.iload_n 2, 1) := by decide +kernel
theorem dX11_copy_52 : decode cX11_copy 52 = .ok (.ifCond .lt 43, 3) := by decide +kernel
theorem dX11_copy_55 : decode cX11_copy 55 = .ok (.iload 4, 2) := by decide +kernel
theorem dX11_copy_57 : decode cX11_copy 57 = .ok (.ifCond .lt 38, 3) := by decide +kernel
theorem dX11_copy_60 : decode cX11_copy 60 = .ok (.iload_n 2, 1) := by decide +kernel
theorem dX11_copy_61 : decode cX11_copy 61 = .ok (.i2l, 1) := by decide +kernel
theorem dX11_copy_62 : decode cX11_copy 62 = .ok (.iload 5, 2) := by decide +kernel
theorem dX11_copy_64 : decode cX11_copy 64 = .ok (.i2l, 1) := by decide +kernel
theorem dX11_copy_65 : decode cX11_copy 65 = .ok (.ladd, 1) := by decide +kernel
theorem dX11_copy_66 : decode cX11_copy 66 = .ok (.aload_n 0, 1) := by decide +kernel
theorem dX11_copy_67 : decode cX11_copy 67 = .ok (.getfield 13, 3) := by decide +kernel
theorem dX11_copy_70 : decode cX11_copy 70 = .ok (.iload_n 1, 1) := by decide +kernel
theorem dX11_copy_71 : decode cX11_copy 71 = .ok (.iaload, 1) := by decide +kernel
theorem dX11_copy_72 : decode cX11_copy 72 = .ok (.i2l, 1) := by decide +kernel
theorem dX11_copy_73 : decode cX11_copy 73 = .ok (.lcmp, 1) := by decide +kernel
theorem dX11_copy_74 : decode cX11_copy 74 = .ok (.ifCond .gt 21, 3) := by decide +kernel
theorem dX11_copy_77 : decode cX11_copy 77 = .ok (.iload 4, 2) := by decide +kernel
theorem dX11_copy_79 : decode cX11_copy 79 = .ok (.i2l, 1) := by decide +kernel
theorem dX11_copy_80 : decode cX11_copy 80 = .ok (.iload 5, 2) := by decide +kernel
theorem dX11_copy_82 : decode cX11_copy 82 = .ok (.i2l, 1) := by decide +kernel
theorem dX11_copy_83 : decode cX11_copy 83 = .ok (.ladd, 1) := by decide +kernel
theorem dX11_copy_84 : decode cX11_copy 84 = .ok (.aload_n 0, 1) := by decide +kernel
theorem dX11_copy_85 : decode cX11_copy 85 = .ok (.getfield 13, 3) := by decide +kernel
theorem dX11_copy_88 : decode cX11_copy 88 = .ok (.iload_n 3, 1) := by decide +kernel
theorem dX11_copy_89 : decode cX11_copy 89 = .ok (.iaload, 1) := by decide +kernel
theorem dX11_copy_90 : decode cX11_copy 90 = .ok (.i2l, 1) := by decide +kernel
theorem dX11_copy_91 : decode cX11_copy 91 = .ok (.lcmp, 1) := by decide +kernel
theorem dX11_copy_92 : decode cX11_copy 92 = .ok (.ifCond .le 9, 3) := by decide +kernel
theorem dX11_copy_95 : decode cX11_copy 95 = .ok (.aload_n 0, 1) := by decide +kernel
theorem dX11_copy_96 : decode cX11_copy 96 = .ok (.iconst 2, 1) := by decide +kernel
theorem dX11_copy_97 : decode cX11_copy 97 = .ok (.invokevirtual 80, 3) := by decide +kernel
theorem dX11_copy_100 : decode cX11_copy 100 = .ok (.ireturn, 1) := by decide +kernel
theorem dX11_copy_101 : decode cX11_copy 101 = .ok (.iconst 0, 1) := by decide +kernel
theorem dX11_copy_102 : decode cX11_copy 102 = .ok (.istore 6, 2) := by decide +kernel
theorem dX11_copy_104 : decode cX11_copy 104 = .ok (.iload 6, 2) := by decide +kernel
theorem dX11_copy_106 : decode cX11_copy 106 = .ok (.iload 5, 2) := by decide +kernel
theorem dX11_copy_108 : decode cX11_copy 108 = .ok (.if_icmp .ge 30, 3) := by decide +kernel
theorem dX11_copy_111 : decode cX11_copy 111 = .ok (.aload_n 0, 1) := by decide +kernel
theorem dX11_copy_112 : decode cX11_copy 112 = .ok (.getfield 32, 3) := by decide +kernel
theorem dX11_copy_115 : decode cX11_copy 115 = .ok (.iload 6, 2) := by decide +kernel
theorem dX11_copy_117 : decode cX11_copy 117 = .ok (.aload_n 0, 1) := by decide +kernel
theorem dX11_copy_118 : decode cX11_copy 118 = .ok (.getfield 16, 3) := by decide +kernel
theorem dX11_copy_121 : decode cX11_copy 121 = .ok (.bipush 40, 2) := by decide +kernel
theorem dX11_copy_123 : decode cX11_copy 123 = .ok (.iload_n 1, 1) := by decide +kernel
theorem dX11_copy_124 : decode cX11_copy 124 = .ok (.imul, 1) := by decide +kernel
theorem dX11_copy_125 : decode cX11_copy 125 = .ok (.iload_n 2, 1) := by decide +kernel
theorem dX11_copy_126 : decode cX11_copy 126 = .ok (.iadd, 1) := by decide +kernel
theorem dX11_copy_127 : decode cX11_copy 127 = .ok (.iload 6, 2) := by decide +kernel
theorem dX11_copy_129 : decode cX11_copy 129 = .ok (.iadd, 1) := by decide +kernel
theorem dX11_copy_130 : decode cX11_copy 130 = .ok (.iaload, 1) := by decide +kernel
theorem dX11_copy_131 : decode cX11_copy 131 = .ok (.iastore, 1) := by decide +kernel
theorem dX11_copy_132 : decode cX11_copy 132 = .ok (.iinc 6 1, 3) := by decide +kernel
theorem dX11_copy_135 : decode cX11_copy 135 = .ok (.goto (-31), 3) := by decide +kernel
theorem dX11_copy_138 : decode cX11_copy 138 = .ok (.iconst 0, 1) := by decide +kernel
theorem dX11_copy_139 : decode cX11_copy 139 = .ok (.istore 6, 2) := by decide +kernel
theorem dX11_copy_141 : decode cX11_copy 141 = .ok (.iload 6, 2) := by decide +kernel
theorem dX11_copy_143 : decode cX11_copy 143 = .ok (.iload 5, 2) := by decide +kernel
theorem dX11_copy_145 : decode cX11_copy 145 = .ok (.if_icmp .ge 31, 3) := by decide +kernel
theorem dX11_copy_148 : decode cX11_copy 148 = .ok (.aload_n 0, 1) := by decide +kernel
theorem dX11_copy_149 : decode cX11_copy 149 = .ok (.getfield 16, 3) := by decide +kernel
theorem dX11_copy_152 : decode cX11_copy 152 = .ok (.bipush 40, 2) := by decide +kernel
theorem dX11_copy_154 : decode cX11_copy 154 = .ok (.iload_n 3, 1) := by decide +kernel
theorem dX11_copy_155 : decode cX11_copy 155 = .ok (.imul, 1) := by decide +kernel
theorem dX11_copy_156 : decode cX11_copy 156 = .ok (.iload 4, 2) := by decide +kernel
theorem dX11_copy_158 : decode cX11_copy 158 = .ok (.iadd, 1) := by decide +kernel
theorem dX11_copy_159 : decode cX11_copy 159 = .ok (.iload 6, 2) := by decide +kernel
theorem dX11_copy_161 : decode cX11_copy 161 = .ok (.iadd, 1) := by decide +kernel
theorem dX11_copy_162 : decode cX11_copy 162 = .ok (.aload_n 0, 1) := by decide +kernel
theorem dX11_copy_163 : decode cX11_copy 163 = .ok (.getfield 32, 3) := by decide +kernel
theorem dX11_copy_166 : decode cX11_copy 166 = .ok (.iload 6, 2) := by decide +kernel
theorem dX11_copy_168 : decode cX11_copy 168 = .ok (.iaload, 1) := by decide +kernel
theorem dX11_copy_169 : decode cX11_copy 169 = .ok (.iastore, 1) := by decide +kernel
theorem dX11_copy_170 : decode cX11_copy 170 = .ok (.iinc 6 1, 3) := by decide +kernel
theorem dX11_copy_173 : decode cX11_copy 173 = .ok (.goto (-32), 3) := by decide +kernel
theorem dX11_copy_176 : decode cX11_copy 176 = .ok (.iconst 1, 1) := by decide +kernel
theorem dX11_copy_177 : decode cX11_copy 177 = .ok (.ireturn, 1) := by decide +kernel
theorem dX11_mean_0 : decode cX11_mean 0 = .ok (.iload_n 1, 1) := by decide +kernel
theorem dX11_mean_1 : decode cX11_mean 1 = .ok (.invokestatic 76, 3) := by decide +kernel
theorem dX11_mean_4 : decode cX11_mean 4 = .ok (.ifCond .ne 5, 3) := by decide +kernel
theorem dX11_mean_7 : decode cX11_mean 7 = .ok (.iconst (-1), 1) := by decide +kernel
theorem dX11_mean_8 : decode cX11_mean 8 = .ok (.ireturn, 1) := by decide +kernel
theorem dX11_mean_9 : decode cX11_mean 9 = .ok (.aload_n 0, 1) := by decide +kernel
theorem dX11_mean_10 : decode cX11_mean 10 = .ok (.getfield 13, 3) := by decide +kernel
theorem dX11_mean_13 : decode cX11_mean 13 = .ok (.iload_n 1, 1) := by decide +kernel
theorem dX11_mean_14 : decode cX11_mean 14 = .ok (.iaload, 1) := by decide +kernel
theorem dX11_mean_15 : decode cX11_mean 15 = .ok (.ifCond .ge 9, 3) := by decide +kernel
theorem dX11_mean_18 : decode cX11_mean 18 = .ok (.aload_n 0, 1) := by decide +kernel
theorem dX11_mean_19 : decode cX11_mean 19 = .ok (.iconst 1, 1) := by decide +kernel
theorem dX11_mean_20 : decode cX11_mean 20 = .ok (.invokevirtual 80, 3) := by decide +kernel
theorem dX11_mean_23 : decode cX11_mean 23 = .ok (.ireturn, 1) := by decide +kernel
theorem dX11_mean_24 : decode cX11_mean 24 = .ok (.aload_n 0, 1) := by decide +kernel
theorem dX11_mean_25 : decode cX11_mean 25 = .ok (.getfield 13, 3) := by decide +kernel
theorem dX11_mean_28 : decode cX11_mean 28 = .ok (.iload_n 1, 1) := by decide +kernel
theorem dX11_mean_29 : decode cX11_mean 29 = .ok (.iaload, 1) := by decide +kernel
theorem dX11_mean_30 : decode cX11_mean 30 = .ok (.ifCond .ne 9, 3) := by decide +kernel
theorem dX11_mean_33 : decode cX11_mean 33 = .ok (.aload_n 0, 1) := by decide +kernel
theorem dX11_mean_34 : decode cX11_mean 34 = .ok (.iconst 4, 1) := by decide +kernel
theorem dX11_mean_35 : decode cX11_mean 35 = .ok (.invokevirtual 80, 3) := by decide +kernel
theorem dX11_mean_38 : decode cX11_mean 38 = .ok (.ireturn, 1) := by decide +kernel
theorem dX11_mean_39 : decode cX11_mean 39 = .ok (.lconst 0, 1) := by decide +kernel
theorem dX11_mean_40 : decode cX11_mean 40 = .ok (.lstore_n 2, 1) := by decide +kernel
theorem dX11_mean_41 : decode cX11_mean 41 = .ok (.iconst 0, 1) := by decide +kernel
theorem dX11_mean_42 : decode cX11_mean 42 = .ok (.istore 4, 2) := by decide +kernel
theorem dX11_mean_44 : decode cX11_mean 44 = .ok (.iload 4, 2) := by decide +kernel
theorem dX11_mean_46 : decode cX11_mean 46 = .ok (.aload_n 0, 1) := by decide +kernel
theorem dX11_mean_47 : decode cX11_mean 47 = .ok (.getfield 13, 3) := by decide +kernel
theorem dX11_mean_50 : decode cX11_mean 50 = .ok (.iload_n 1, 1) := by decide +kernel
theorem dX11_mean_51 : decode cX11_mean 51 = .ok (.iaload, 1) := by decide +kernel
theorem dX11_mean_52 : decode cX11_mean 52 = .ok (.if_icmp .ge 25, 3) := by decide +kernel
theorem dX11_mean_55 : decode cX11_mean 55 = .ok (.lload_n 2, 1) := by decide +kernel
theorem dX11_mean_56 : decode cX11_mean 56 = .ok (.aload_n 0, 1) := by decide +kernel
theorem dX11_mean_57 : decode cX11_mean 57 = .ok (.getfield 16, 3) := by decide +kernel
theorem dX11_mean_60 : decode cX11_mean 60 = .ok (.bipush 40, 2) := by decide +kernel
theorem dX11_mean_62 : decode cX11_mean 62 = .ok (.iload_n 1, 1) := by decide +kernel
theorem dX11_mean_63 : decode cX11_mean 63 = .ok (.imul, 1) := by decide +kernel
theorem dX11_mean_64 : decode cX11_mean 64 = .ok (.iload 4, 2) := by decide +kernel
theorem dX11_mean_66 : decode cX11_mean 66 = .ok (.iadd, 1) := by decide +kernel
theorem dX11_mean_67 : decode cX11_mean 67 = .ok (.iaload, 1) := by decide +kernel
theorem dX11_mean_68 : decode cX11_mean 68 = .ok (.i2l, 1) := by decide +kernel
theorem dX11_mean_69 : decode cX11_mean 69 = .ok (.ladd, 1) := by decide +kernel
theorem dX11_mean_70 : decode cX11_mean 70 = .ok (.lstore_n 2, 1) := by decide +kernel
theorem dX11_mean_71 : decode cX11_mean 71 = .ok (.iinc 4 1, 3) := by decide +kernel
theorem dX11_mean_74 : decode cX11_mean 74 = .ok (.goto (-30), 3) := by decide +kernel
theorem dX11_mean_77 : decode cX11_mean 77 = .ok (.aload_n 0, 1) := by decide +kernel
theorem dX11_mean_78 : decode cX11_mean 78 = .ok (.lload_n 2, 1) := by decide +kernel
theorem dX11_mean_79 : decode cX11_mean 79 = .ok (.aload_n 0, 1) := by decide +kernel
theorem dX11_mean_80 : decode cX11_mean 80 = .ok (.getfield 13, 3) := by decide +kernel
theorem dX11_mean_83 : decode cX11_mean 83 = .ok (.iload_n 1, 1) := by decide +kernel
theorem dX11_mean_84 : decode cX11_mean 84 = .ok (.iaload, 1) := by decide +kernel
theorem dX11_mean_85 : decode cX11_mean 85 = .ok (.i2l, 1) := by decide +kernel
theorem dX11_mean_86 : decode cX11_mean 86 = .ok (.ldiv, 1) := by decide +kernel
theorem dX11_mean_87 : decode cX11_mean 87 = .ok (.l2i, 1) := by decide +kernel
theorem dX11_mean_88 : decode cX11_mean 88 = .ok (.invokevirtual 83, 3) := by decide +kernel
theorem dX11_mean_91 : decode cX11_mean 91 = .ok (.ireturn, 1) := by decide +kernel
theorem dX11_text_0 : decode cX11_text 0 = .ok (.iload_n 1, 1) := by decide +kernel
theorem dX11_text_1 : decode cX11_text 1 = .ok (.invokestatic 86, 3) := by decide +kernel
theorem dX11_text_4 : decode cX11_text 4 = .ok (.ifCond .eq 9, 3) := by decide +kernel
theorem dX11_text_7 : decode cX11_text 7 = .ok (.iload_n 2, 1) := by decide +kernel
theorem dX11_text_8 : decode cX11_text 8 = .ok (.bipush 60, 2) := by decide +kernel
theorem dX11_text_10 : decode cX11_text 10 = .ok (.if_icmp .le 5, 3) := by decide +kernel
theorem dX11_text_13 : decode cX11_text 13 = .ok (.iconst (-1), 1) := by decide +kernel
theorem dX11_text_14 : decode cX11_text 14 = .ok (.ireturn, 1) := by decide +kernel
theorem dX11_text_15 : decode cX11_text 15 = .ok (.iload_n 2, 1) := by decide +kernel
theorem dX11_text_16 : decode cX11_text 16 = .ok (.ifCond .ge 9, 3) := by decide +kernel
theorem dX11_text_19 : decode cX11_text 19 = .ok (.aload_n 0, 1) := by decide +kernel
theorem dX11_text_20 : decode cX11_text 20 = .ok (.iconst 5, 1) := by decide +kernel
theorem dX11_text_21 : decode cX11_text 21 = .ok (.invokevirtual 80, 3) := by decide +kernel
theorem dX11_text_24 : decode cX11_text 24 = .ok (.ireturn, 1) := by decide +kernel
theorem dX11_text_25 : decode cX11_text 25 = .ok (.aload_n 0, 1) := by decide +kernel
theorem dX11_text_26 : decode cX11_text 26 = .ok (.getfield 19, 3) := by decide +kernel
theorem dX11_text_29 : decode cX11_text 29 = .ok (.iload_n 1, 1) := by decide +kernel
theorem dX11_text_30 : decode cX11_text 30 = .ok (.iload_n 2, 1) := by decide +kernel
theorem dX11_text_31 : decode cX11_text 31 = .ok (.iastore, 1) := by decide +kernel
theorem dX11_text_32 : decode cX11_text 32 = .ok (.iconst 0, 1) := by decide +kernel
theorem dX11_text_33 : decode cX11_text 33 = .ok (.istore_n 3, 1) := by decide +kernel
theorem dX11_text_34 : decode cX11_text 34 = .ok (.iload_n 3, 1) := by decide +kernel
theorem dX11_text_35 : decode cX11_text 35 = .ok (.bipush 60, 2) := by decide +kernel
theorem dX11_text_37 : decode cX11_text 37 = .ok (.if_icmp .ge 22, 3) := by decide +kernel
theorem dX11_text_40 : decode cX11_text 40 = .ok (.aload_n 0, 1) := by decide +kernel
theorem dX11_text_41 : decode cX11_text 41 = .ok (.getfield 22, 3) := by decide +kernel
theorem dX11_text_44 : decode cX11_text 44 = .ok (.bipush 60, 2) := by decide +kernel
theorem dX11_text_46 : decode cX11_text 46 = .ok (.iload_n 1, 1) := by decide +kernel
theorem dX11_text_47 : decode cX11_text 47 = .ok (.imul, 1) := by decide +kernel
theorem dX11_text_48 : decode cX11_text 48 = .ok (.iload_n 3, 1) := by decide +kernel
theorem dX11_text_49 : decode cX11_text 49 = .ok (.iadd, 1) := by decide +kernel
theorem dX11_text_50 : decode cX11_text 50 = .ok (.bipush 32, 2) := by decide +kernel
theorem dX11_text_52 : decode cX11_text 52 = .ok (.iastore, 1) := by decide +kernel
theorem dX11_text_53 : decode cX11_text 53 = .ok (.iinc 3 1, 3) := by decide +kernel
theorem dX11_text_56 : decode cX11_text 56 = .ok (.goto (-22), 3) := by decide +kernel
theorem dX11_text_59 : decode cX11_text 59 = .ok (.iload_n 2, 1) := by decide +kernel
theorem dX11_text_60 : decode cX11_text 60 = .ok (.ireturn, 1) := by decide +kernel
theorem dX11_put_0 : decode cX11_put 0 = .ok (.iload_n 1, 1) := by decide +kernel
theorem dX11_put_1 : decode cX11_put 1 = .ok (.invokestatic 86, 3) := by decide +kernel
theorem dX11_put_4 : decode cX11_put 4 = .ok (.ifCond .ne 5, 3) := by decide +kernel
theorem dX11_put_7 : decode cX11_put 7 = .ok (.iconst (-1), 1) := by decide +kernel
theorem dX11_put_8 : decode cX11_put 8 = .ok (.ireturn, 1) := by decide +kernel
theorem dX11_put_9 : decode cX11_put 9 = .ok (.aload_n 0, 1) := by decide +kernel
theorem dX11_put_10 : decode cX11_put 10 = .ok (.getfield 19, 3) := by decide +kernel
theorem dX11_put_13 : decode cX11_put 13 = .ok (.iload_n 1, 1) := by decide +kernel
theorem dX11_put_14 : decode cX11_put 14 = .ok (.iaload, 1) := by decide +kernel
theorem dX11_put_15 : decode cX11_put 15 = .ok (.ifCond .ge 9, 3) := by decide +kernel
theorem dX11_put_18 : decode cX11_put 18 = .ok (.aload_n 0, 1) := by decide +kernel
theorem dX11_put_19 : decode cX11_put 19 = .ok (.iconst 1, 1) := by decide +kernel
theorem dX11_put_20 : decode cX11_put 20 = .ok (.invokevirtual 80, 3) := by decide +kernel
theorem dX11_put_23 : decode cX11_put 23 = .ok (.ireturn, 1) := by decide +kernel
theorem dX11_put_24 : decode cX11_put 24 = .ok (.iload_n 2, 1) := by decide +kernel
theorem dX11_put_25 : decode cX11_put 25 = .ok (.i2l, 1) := by decide +kernel
theorem dX11_put_26 : decode cX11_put 26 = .ok (.lconst 0, 1) := by decide +kernel
theorem dX11_put_27 : decode cX11_put 27 = .ok (.aload_n 0, 1) := by decide +kernel
theorem dX11_put_28 : decode cX11_put 28 = .ok (.getfield 19, 3) := by decide +kernel
theorem dX11_put_31 : decode cX11_put 31 = .ok (.iload_n 1, 1) := by decide +kernel
theorem dX11_put_32 : decode cX11_put 32 = .ok (.iaload, 1) := by decide +kernel
theorem dX11_put_33 : decode cX11_put 33 = .ok (.iconst 1, 1) := by decide +kernel
theorem dX11_put_34 : decode cX11_put 34 = .ok (.isub, 1) := by decide +kernel
theorem dX11_put_35 : decode cX11_put 35 = .ok (.i2l, 1) := by decide +kernel
theorem dX11_put_36 : decode cX11_put 36 = .ok (.invokestatic 68, 3) := by decide +kernel
theorem dX11_put_39 : decode cX11_put 39 = .ok (.ifCond .ne 9, 3) := by decide +kernel
theorem dX11_put_42 : decode cX11_put 42 = .ok (.aload_n 0, 1) := by decide +kernel
theorem dX11_put_43 : decode cX11_put 43 = .ok (.iconst 2, 1) := by decide +kernel
theorem dX11_put_44 : decode cX11_put 44 = .ok (.invokevirtual 80, 3) := by decide +kernel
theorem dX11_put_47 : decode cX11_put 47 = .ok (.ireturn, 1) := by decide +kernel
theorem dX11_put_48 : decode cX11_put 48 = .ok (.aload_n 0, 1) := by decide +kernel
theorem dX11_put_49 : decode cX11_put 49 = .ok (.getfield 22, 3) := by decide +kernel
theorem dX11_put_52 : decode cX11_put 52 = .ok (.bipush 60, 2) := by decide +kernel
theorem dX11_put_54 : decode cX11_put 54 = .ok (.iload_n 1, 1) := by decide +kernel
theorem dX11_put_55 : decode cX11_put 55 = .ok (.imul, 1) := by decide +kernel
theorem dX11_put_56 : decode cX11_put 56 = .ok (.iload_n 2, 1) := by decide +kernel
theorem dX11_put_57 : decode cX11_put 57 = .ok (.iadd, 1) := by decide +kernel
theorem dX11_put_58 : decode cX11_put 58 = .ok (.iaload, 1) := by decide +kernel
theorem dX11_put_59 : decode cX11_put 59 = .ok (.istore 4, 2) := by decide +kernel
theorem dX11_put_61 : decode cX11_put 61 = .ok (.aload_n 0, 1) := by decide +kernel
theorem dX11_put_62 : decode cX11_put 62 = .ok (.getfield 22, 3) := by decide +kernel
theorem dX11_put_65 : decode cX11_put 65 = .ok (.bipush 60, 2) := by decide +kernel
theorem dX11_put_67 : decode cX11_put 67 = .ok (.iload_n 1, 1) := by decide +kernel
theorem dX11_put_68 : decode cX11_put 68 = .ok (.imul, 1) := by decide +kernel
theorem dX11_put_69 : decode cX11_put 69 = .ok (.iload_n 2, 1) := by decide +kernel
theorem dX11_put_70 : decode cX11_put 70 = .ok (.iadd, 1) := by decide +kernel
theorem dX11_put_71 : decode cX11_put 71 = .ok (.iload_n 3, 1) := by decide +kernel
theorem dX11_put_72 : decode cX11_put 72 = .ok (.i2b, 1) := by decide +kernel
theorem dX11_put_73 : decode cX11_put 73 = .ok (.iastore, 1) := by decide +kernel
theorem dX11_put_74 : decode cX11_put 74 = .ok (.iload 4, 2) := by decide +kernel
theorem dX11_put_76 : decode cX11_put 76 = .ok (.sipush 1000, 3) := by decide +kernel
theorem dX11_put_79 : decode cX11_put 79 = .ok (.iadd, 1) := by decide +kernel
theorem dX11_put_80 : decode cX11_put 80 = .ok (.ireturn, 1) := by decide +kernel
theorem dX11_here_0 : decode cX11_here 0 = .ok (.aload_n 0, 1) := by decide +kernel
theorem dX11_here_1 : decode cX11_here 1 = .ok (.getfield 89, 3) := by decide +kernel
theorem dX11_here_4 : decode cX11_here 4 = .ok (.aload_n 0, 1) := by decide +kernel
theorem dX11_here_5 : decode cX11_here 5 = .ok (.getfield 92, 3) := by decide +kernel
theorem dX11_here_8 : decode cX11_here 8 = .ok (.if_icmp .ge 20, 3) := by decide +kernel
theorem dX11_here_11 : decode cX11_here 11 = .ok (.aload_n 0, 1) := by decide +kernel
theorem dX11_here_12 : decode cX11_here 12 = .ok (.getfield 22, 3) := by decide +kernel
theorem dX11_here_15 : decode cX11_here 15 = .ok (.aload_n 0, 1) := by decide +kernel
theorem dX11_here_16 : decode cX11_here 16 = .ok (.getfield 95, 3) := by decide +kernel
theorem dX11_here_19 : decode cX11_here 19 = .ok (.aload_n 0, 1) := by decide +kernel
theorem dX11_here_20 : decode cX11_here 20 = .ok (.getfield 89, 3) := by decide +kernel
theorem dX11_here_23 : decode cX11_here 23 = .ok (.iadd, 1) := by decide +kernel
theorem dX11_here_24 : decode cX11_here 24 = .ok (.iaload, 1) := by decide +kernel
theorem dX11_here_25 : decode cX11_here 25 = .ok (.goto 6, 3) := by decide +kernel
theorem dX11_here_28 : decode cX11_here 28 = .ok (.sipush (-1000), 3) := by decide +kernel
theorem dX11_here_31 : decode cX11_here 31 = .ok (.ireturn, 1) := by decide +kernel
theorem dX11_kindOf_0 : decode cX11_kindOf 0 = .ok (.iload_n 0, 1) := by decide +kernel
theorem dX11_kindOf_1 : decode cX11_kindOf 1 = .ok (.bipush 114, 2) := by decide +kernel
theorem dX11_kindOf_3 : decode cX11_kindOf 3 = .ok (.if_icmp .ne 7, 3) := by decide +kernel
theorem dX11_kindOf_6 : decode cX11_kindOf 6 = .ok (.iconst 0, 1) := by decide +kernel
theorem dX11_kindOf_7 : decode cX11_kindOf 7 = .ok (.goto 54, 3) := by decide +kernel
theorem dX11_kindOf_10 : decode cX11_kindOf 10 = .ok (.iload_n 0, 1) := by decide +kernel
theorem dX11_kindOf_11 : decode cX11_kindOf 11 = .ok (.bipush 119, 2) := by decide +kernel
theorem dX11_kindOf_13 : decode cX11_kindOf 13 = .ok (.if_icmp .ne 7, 3) := by decide +kernel
theorem dX11_kindOf_16 : decode cX11_kindOf 16 = .ok (.iconst 1, 1) := by decide +kernel
theorem dX11_kindOf_17 : decode cX11_kindOf 17 = .ok (.goto 44, 3) := by decide +kernel
theorem dX11_kindOf_20 : decode cX11_kindOf 20 = .ok (.iload_n 0, 1) := by decide +kernel
theorem dX11_kindOf_21 : decode cX11_kindOf 21 = .ok (.bipush 116, 2) := by decide +kernel
theorem dX11_kindOf_23 : decode cX11_kindOf 23 = .ok (.if_icmp .ne 7, 3) := by decide +kernel
theorem dX11_kindOf_26 : decode cX11_kindOf 26 = .ok (.iconst 2, 1) := by decide +kernel
theorem dX11_kindOf_27 : decode cX11_kindOf 27 = .ok (.goto 34, 3) := by decide +kernel
theorem dX11_kindOf_30 : decode cX11_kindOf 30 = .ok (.iload_n 0, 1) := by decide +kernel
theorem dX11_kindOf_31 : decode cX11_kindOf 31 = .ok (.bipush 115, 2) := by decide +kernel
theorem dX11_kindOf_33 : decode cX11_kindOf 33 = .ok (.if_icmp .ne 7, 3) := by decide +kernel
theorem dX11_kindOf_36 : decode cX11_kindOf 36 = .ok (.iconst 3, 1) := by decide +kernel
theorem dX11_kindOf_37 : decode cX11_kindOf 37 = .ok (.goto 24, 3) := by decide +kernel
theorem dX11_kindOf_40 : decode cX11_kindOf 40 = .ok (.iload_n 0, 1) := by decide +kernel
theorem dX11_kindOf_41 : decode cX11_kindOf 41 = .ok (.bipush 98, 2) := by decide +kernel
theorem dX11_kindOf_43 : decode cX11_kindOf 43 = .ok (.if_icmp .ne 7, 3) := by decide +kernel
theorem dX11_kindOf_46 : decode cX11_kindOf 46 = .ok (.iconst 4, 1) := by decide +kernel
theorem dX11_kindOf_47 : decode cX11_kindOf 47 = .ok (.goto 14, 3) := by decide +kernel
theorem dX11_kindOf_50 : decode cX11_kindOf 50 = .ok (.iload_n 0, 1) := by decide +kernel
theorem dX11_kindOf_51 : decode cX11_kindOf 51 = .ok (.bipush 100, 2) := by decide +kernel
theorem dX11_kindOf_53 : decode cX11_kindOf 53 = .ok (.if_icmp .ne 7, 3) := by decide +kernel
theorem dX11_kindOf_56 : decode cX11_kindOf 56 = .ok (.iconst 5, 1) := by decide +kernel
theorem dX11_kindOf_57 : decode cX11_kindOf 57 = .ok (.goto 4, 3) := by decide +kernel
theorem dX11_kindOf_60 : decode cX11_kindOf 60 = .ok (.iconst (-1), 1) := by decide +kernel
theorem dX11_kindOf_61 : decode cX11_kindOf 61 = .ok (.ireturn, 1) := by decide +kernel
theorem dX11_takesRod_0 : decode cX11_takesRod 0 = .ok (.aload_n 0, 1) := by decide +kernel
theorem dX11_takesRod_1 : decode cX11_takesRod 1 = .ok (.invokevirtual 98, 3) := by decide +kernel
theorem dX11_takesRod_4 : decode cX11_takesRod 4 = .ok (.invokestatic 102, 3) := by decide +kernel
theorem dX11_takesRod_7 : decode cX11_takesRod 7 = .ok (.istore_n 1, 1) := by decide +kernel
theorem dX11_takesRod_8 : decode cX11_takesRod 8 = .ok (.iload_n 1, 1) := by decide +kernel
theorem dX11_takesRod_9 : decode cX11_takesRod 9 = .ok (.ifCond .lt 12, 3) := by decide +kernel
theorem dX11_takesRod_12 : decode cX11_takesRod 12 = .ok (.aload_n 0, 1) := by decide +kernel
theorem dX11_takesRod_13 : decode cX11_takesRod 13 = .ok (.getfield 105, 3) := by decide +kernel
theorem dX11_takesRod_16 : decode cX11_takesRod 16 = .ok (.bipush 7, 2) := by decide +kernel
theorem dX11_takesRod_18 : decode cX11_takesRod 18 = .ok (.if_icmp .ne 5, 3) := by decide +kernel
theorem dX11_takesRod_21 : decode cX11_takesRod 21 = .ok (.iconst 0, 1) := by decide +kernel
theorem dX11_takesRod_22 : decode cX11_takesRod 22 = .ok (.ireturn, 1) := by decide +kernel
theorem dX11_takesRod_23 : decode cX11_takesRod 23 = .ok (.aload_n 0, 1) := by decide +kernel
theorem dX11_takesRod_24 : decode cX11_takesRod 24 = .ok (.dup, 1) := by decide +kernel
theorem dX11_takesRod_25 : decode cX11_takesRod 25 = .ok (.getfield 89, 3) := by decide +kernel
theorem dX11_takesRod_28 : decode cX11_takesRod 28 = .ok (.iconst 1, 1) := by decide +kernel
theorem dX11_takesRod_29 : decode cX11_takesRod 29 = .ok (.iadd, 1) := by decide +kernel
theorem dX11_takesRod_30 : decode cX11_takesRod 30 = .ok (.putfield 89, 3) := by decide +kernel
theorem dX11_takesRod_33 : decode cX11_takesRod 33 = .ok (.iconst 3, 1) := by decide +kernel
theorem dX11_takesRod_34 : decode cX11_takesRod 34 = .ok (.aload_n 0, 1) := by decide +kernel
theorem dX11_takesRod_35 : decode cX11_takesRod 35 = .ok (.getfield 105, 3) := by decide +kernel
theorem dX11_takesRod_38 : decode cX11_takesRod 38 = .ok (.imul, 1) := by decide +kernel
theorem dX11_takesRod_39 : decode cX11_takesRod 39 = .ok (.istore_n 2, 1) := by decide +kernel
theorem dX11_takesRod_40 : decode cX11_takesRod 40 = .ok (.aload_n 0, 1) := by decide +kernel
theorem dX11_takesRod_41 : decode cX11_takesRod 41 = .ok (.getfield 35, 3) := by decide +kernel
theorem dX11_takesRod_44 : decode cX11_takesRod 44 = .ok (.iload_n 2, 1) := by decide +kernel
theorem dX11_takesRod_45 : decode cX11_takesRod 45 = .ok (.iload_n 1, 1) := by decide +kernel
theorem dX11_takesRod_46 : decode cX11_takesRod 46 = .ok (.iastore, 1) := by decide +kernel
theorem dX11_takesRod_47 : decode cX11_takesRod 47 = .ok (.iconst 1, 1) := by decide +kernel
theorem dX11_takesRod_48 : decode cX11_takesRod 48 = .ok (.istore_n 3, 1) := by decide +kernel
theorem dX11_takesRod_49 : decode cX11_takesRod 49 = .ok (.iload_n 3, 1) := by decide +kernel
theorem dX11_takesRod_50 : decode cX11_takesRod 50 = .ok (.iconst 3, 1) := by decide +kernel
theorem dX11_takesRod_51 : decode cX11_takesRod 51 = .ok (.if_icmp .ge 53, 3) := by decide +kernel
theorem dX11_takesRod_54 : decode cX11_takesRod 54 = .ok (.aload_n 0, 1) := by decide +kernel
theorem dX11_takesRod_55 : decode cX11_takesRod 55 = .ok (.invokevirtual 98, 3) := by decide +kernel
theorem dX11_takesRod_58 : decode cX11_takesRod 58 = .ok (.bipush 48, 2) := by decide +kernel
theorem dX11_takesRod_60 : decode cX11_takesRod 60 = .ok (.isub, 1) := by decide +kernel
theorem dX11_takesRod_61 : decode cX11_takesRod 61 = .ok (.istore 4, 2) := by decide +kernel
theorem dX11_takesRod_63 : decode cX11_takesRod 63 = .ok (.iload 4, 2) := by decide +kernel
theorem dX11_takesRod_65 : decode cX11_takesRod 65 = .ok (.i2l, 1) := by decide +kernel
theorem dX11_takesRod_66 : decode cX11_takesRod 66 = .ok (.lconst 0, 1) := by decide +kernel
theorem dX11_takesRod_67 : decode cX11_takesRod 67 = .ok (.ldc2_w 74, 3) := by decide +kernel
theorem dX11_takesRod_70 : decode cX11_takesRod 70 = .ok (.invokestatic 68, 3) := by decide +kernel
theorem dX11_takesRod_73 : decode cX11_takesRod 73 = .ok (.ifCond .ne 5, 3) := by decide +kernel
theorem dX11_takesRod_76 : decode cX11_takesRod 76 = .ok (.iconst 0, 1) := by decide +kernel
theorem dX11_takesRod_77 : decode cX11_takesRod 77 = .ok (.ireturn, 1) := by decide +kernel
theorem dX11_takesRod_78 : decode cX11_takesRod 78 = .ok (.aload_n 0, 1) := by decide +kernel
theorem dX11_takesRod_79 : decode cX11_takesRod 79 = .ok (.getfield 35, 3) := by decide +kernel
theorem dX11_takesRod_82 : decode cX11_takesRod 82 = .ok (.iload_n 2, 1) := by decide +kernel
theorem dX11_takesRod_83 : decode cX11_takesRod 83 = .ok (.iload_n 3, 1) := by decide +kernel
theorem dX11_takesRod_84 : decode cX11_takesRod 84 = .ok (.iadd, 1) := by decide +kernel
theorem dX11_takesRod_85 : decode cX11_takesRod 85 = .ok (.iload 4, 2) := by decide +kernel
theorem dX11_takesRod_87 : decode cX11_takesRod 87 = .ok (.iastore, 1) := by decide +kernel
theorem dX11_takesRod_88 : decode cX11_takesRod 88 = .ok (.aload_n 0, 1) := by decide +kernel
theorem dX11_takesRod_89 : decode cX11_takesRod 89 = .ok (.dup, 1) := by decide +kernel
theorem dX11_takesRod_90 : decode cX11_takesRod 90 = .ok (.getfield 89, 3) := by decide +kernel
theorem dX11_takesRod_93 : decode cX11_takesRod 93 = .ok (.iconst 1, 1) := by decide +kernel
theorem dX11_takesRod_94 : decode cX11_takesRod 94 = .ok (.iadd, 1) := by decide +kernel
theorem dX11_takesRod_95 : decode cX11_takesRod 95 = .ok (.putfield 89, 3) := by decide +kernel
theorem dX11_takesRod_98 : decode cX11_takesRod 98 = .ok (.iinc 3 1, 3) := by decide +kernel
theorem dX11_takesRod_101 : decode cX11_takesRod 101 = .ok (.goto (-52), 3) := by decide +kernel
theorem dX11_takesRod_104 : decode cX11_takesRod 104 = .ok (.aload_n 0, 1) := by decide +kernel
theorem dX11_takesRod_105 : decode cX11_takesRod 105 = .ok (.dup, 1) := by decide +kernel
theorem dX11_takesRod_106 : decode cX11_takesRod 106 = .ok (.getfield 105, 3) := by decide +kernel
theorem dX11_takesRod_109 : decode cX11_takesRod 109 = .ok (.iconst 1, 1) := by decide +kernel
theorem dX11_takesRod_110 : decode cX11_takesRod 110 = .ok (.iadd, 1) := by decide +kernel
theorem dX11_takesRod_111 : decode cX11_takesRod 111 = .ok (.putfield 105, 3) := by decide +kernel
theorem dX11_takesRod_114 : decode cX11_takesRod 114 = .ok (.iconst 1, 1) := by decide +kernel
theorem dX11_takesRod_115 : decode cX11_takesRod 115 = .ok (.ireturn, 1) := by decide +kernel
theorem dX11_faultOf_0 : decode cX11_faultOf 0 = .ok (.aload_n 0, 1) := by decide +kernel
theorem dX11_faultOf_1 : decode cX11_faultOf 1 = .ok (.bipush 60, 2) := by decide +kernel
theorem dX11_faultOf_3 : decode cX11_faultOf 3 = .ok (.iload_n 1, 1) := by decide +kernel
theorem dX11_faultOf_4 : decode cX11_faultOf 4 = .ok (.imul, 1) := by decide +kernel
theorem dX11_faultOf_5 : decode cX11_faultOf 5 = .ok (.putfield 95, 3) := by decide +kernel
theorem dX11_faultOf_8 : decode cX11_faultOf 8 = .ok (.aload_n 0, 1) := by decide +kernel
theorem dX11_faultOf_9 : decode cX11_faultOf 9 = .ok (.iconst 0, 1) := by decide +kernel
theorem dX11_faultOf_10 : decode cX11_faultOf 10 = .ok (.putfield 89, 3) := by decide +kernel
theorem dX11_faultOf_13 : decode cX11_faultOf 13 = .ok (.aload_n 0, 1) := by decide +kernel
theorem dX11_faultOf_14 : decode cX11_faultOf 14 = .ok (.aload_n 0, 1) := by decide +kernel
theorem dX11_faultOf_15 : decode cX11_faultOf 15 = .ok (.getfield 19, 3) := by decide +kernel
theorem dX11_faultOf_18 : decode cX11_faultOf 18 = .ok (.iload_n 1, 1) := by decide +kernel
theorem dX11_faultOf_19 : decode cX11_faultOf 19 = .ok (.iaload, 1) := by decide +kernel
theorem dX11_faultOf_20 : decode cX11_faultOf 20 = .ok (.putfield 92, 3) := by decide +kernel
theorem dX11_faultOf_23 : decode cX11_faultOf 23 = .ok (.aload_n 0, 1) := by decide +kernel
theorem dX11_faultOf_24 : decode cX11_faultOf 24 = .ok (.iconst 0, 1) := by decide +kernel
theorem dX11_faultOf_25 : decode cX11_faultOf 25 = .ok (.putfield 105, 3) := by decide +kernel
theorem dX11_faultOf_28 : decode cX11_faultOf 28 = .ok (.iconst 1, 1) := by decide +kernel
theorem dX11_faultOf_29 : decode cX11_faultOf 29 = .ok (.istore_n 2, 1) := by decide +kernel
theorem dX11_faultOf_30 : decode cX11_faultOf 30 = .ok (.iload_n 2, 1) := by decide +kernel
theorem dX11_faultOf_31 : decode cX11_faultOf 31 = .ok (.ifCond .eq 66, 3) := by decide +kernel
theorem dX11_faultOf_34 : decode cX11_faultOf 34 = .ok (.aload_n 0, 1) := by decide +kernel
theorem dX11_faultOf_35 : decode cX11_faultOf 35 = .ok (.invokevirtual 98, 3) := by decide +kernel
theorem dX11_faultOf_38 : decode cX11_faultOf 38 = .ok (.bipush 32, 2) := by decide +kernel
theorem dX11_faultOf_40 : decode cX11_faultOf 40 = .ok (.if_icmp .ne 16, 3) := by decide +kernel
theorem dX11_faultOf_43 : decode cX11_faultOf 43 = .ok (.aload_n 0, 1) := by decide +kernel
theorem dX11_faultOf_44 : decode cX11_faultOf 44 = .ok (.dup, 1) := by decide +kernel
theorem dX11_faultOf_45 : decode cX11_faultOf 45 = .ok (.getfield 89, 3) := by decide +kernel
theorem dX11_faultOf_48 : decode cX11_faultOf 48 = .ok (.iconst 1, 1) := by decide +kernel
theorem dX11_faultOf_49 : decode cX11_faultOf 49 = .ok (.iadd, 1) := by decide +kernel
theorem dX11_faultOf_50 : decode cX11_faultOf 50 = .ok (.putfield 89, 3) := by decide +kernel
theorem dX11_faultOf_53 : decode cX11_faultOf 53 = .ok (.goto (-19), 3) := by decide +kernel
theorem dX11_faultOf_56 : decode cX11_faultOf 56 = .ok (.aload_n 0, 1) := by decide +kernel
theorem dX11_faultOf_57 : decode cX11_faultOf 57 = .ok (.getfield 89, 3) := by decide +kernel
theorem dX11_faultOf_60 : decode cX11_faultOf 60 = .ok (.aload_n 0, 1) := by decide +kernel
theorem dX11_faultOf_61 : decode cX11_faultOf 61 = .ok (.getfield 92, 3) := by decide +kernel
theorem dX11_faultOf_64 : decode cX11_faultOf 64 = .ok (.if_icmp .lt 11, 3) := by decide +kernel
theorem dX11_faultOf_67 : decode cX11_faultOf 67 = .ok (.aload_n 0, 1) := by decide +kernel
theorem dX11_faultOf_68 : decode cX11_faultOf 68 = .ok (.getfield 105, 3) := by decide +kernel
theorem dX11_faultOf_71 : decode cX11_faultOf 71 = .ok (.iconst 2, 1) := by decide +kernel
theorem dX11_faultOf_72 : decode cX11_faultOf 72 = .ok (.if_icmp .ge 7, 3) := by decide +kernel
theorem dX11_faultOf_75 : decode cX11_faultOf 75 = .ok (.iconst 1, 1) := by decide +kernel
theorem dX11_faultOf_76 : decode cX11_faultOf 76 = .ok (.goto 4, 3) := by decide +kernel
theorem dX11_faultOf_79 : decode cX11_faultOf 79 = .ok (.iconst 0, 1) := by decide +kernel
theorem dX11_faultOf_80 : decode cX11_faultOf 80 = .ok (.istore_n 2, 1) := by decide +kernel
theorem dX11_faultOf_81 : decode cX11_faultOf 81 = .ok (.iload_n 2, 1) := by decide +kernel
theorem dX11_faultOf_82 : decode cX11_faultOf 82 = .ok (.ifCond .eq (-52), 3) := by decide +kernel
theorem dX11_faultOf_85 : decode cX11_faultOf 85 = .ok (.aload_n 0, 1) := by decide +kernel
theorem dX11_faultOf_86 : decode cX11_faultOf 86 = .ok (.invokevirtual 108, 3) := by decide +kernel
theorem dX11_faultOf_89 : decode cX11_faultOf 89 = .ok (.ifCond .ne (-59), 3) := by decide +kernel
theorem dX11_faultOf_92 : decode cX11_faultOf 92 = .ok (.aload_n 0, 1) := by decide +kernel
theorem dX11_faultOf_93 : decode cX11_faultOf 93 = .ok (.getfield 89, 3) := by decide +kernel
theorem dX11_faultOf_96 : decode cX11_faultOf 96 = .ok (.ireturn, 1) := by decide +kernel
theorem dX11_faultOf_97 : decode cX11_faultOf 97 = .ok (.bipush (-9), 2) := by decide +kernel
theorem dX11_faultOf_99 : decode cX11_faultOf 99 = .ok (.ireturn, 1) := by decide +kernel
theorem dX11_fault_0 : decode cX11_fault 0 = .ok (.iload_n 1, 1) := by decide +kernel
theorem dX11_fault_1 : decode cX11_fault 1 = .ok (.invokestatic 86, 3) := by decide +kernel
theorem dX11_fault_4 : decode cX11_fault 4 = .ok (.ifCond .ne 5, 3) := by decide +kernel
theorem dX11_fault_7 : decode cX11_fault 7 = .ok (.iconst (-1), 1) := by decide +kernel
theorem dX11_fault_8 : decode cX11_fault 8 = .ok (.ireturn, 1) := by decide +kernel
theorem dX11_fault_9 : decode cX11_fault 9 = .ok (.aload_n 0, 1) := by decide +kernel
theorem dX11_fault_10 : decode cX11_fault 10 = .ok (.getfield 19, 3) := by decide +kernel
theorem dX11_fault_13 : decode cX11_fault 13 = .ok (.iload_n 1, 1) := by decide +kernel
theorem dX11_fault_14 : decode cX11_fault 14 = .ok (.iaload, 1) := by decide +kernel
theorem dX11_fault_15 : decode cX11_fault 15 = .ok (.ifCond .ge 11, 3) := by decide +kernel
