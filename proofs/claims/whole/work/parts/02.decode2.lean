theorem dX11_fault_18 : decode cX11_fault 18 = .ok (.aload_n 0, 1) := by decide +kernel
theorem dX11_fault_19 : decode cX11_fault 19 = .ok (.iconst 1, 1) := by decide +kernel
theorem dX11_fault_20 : decode cX11_fault 20 = .ok (.invokevirtual 80, 3) := by decide +kernel
theorem dX11_fault_23 : decode cX11_fault 23 = .ok (.goto 8, 3) := by decide +kernel
theorem dX11_fault_26 : decode cX11_fault 26 = .ok (.aload_n 0, 1) := by decide +kernel
theorem dX11_fault_27 : decode cX11_fault 27 = .ok (.iload_n 1, 1) := by decide +kernel
theorem dX11_fault_28 : decode cX11_fault 28 = .ok (.invokevirtual 112, 3) := by decide +kernel
theorem dX11_fault_31 : decode cX11_fault 31 = .ok (.ireturn, 1) := by decide +kernel
theorem dX11_box_0 : decode cX11_box 0 = .ok (.iload_n 1, 1) := by decide +kernel
theorem dX11_box_1 : decode cX11_box 1 = .ok (.invokestatic 86, 3) := by decide +kernel
theorem dX11_box_4 : decode cX11_box 4 = .ok (.ifCond .ne 5, 3) := by decide +kernel
theorem dX11_box_7 : decode cX11_box 7 = .ok (.iconst (-1), 1) := by decide +kernel
theorem dX11_box_8 : decode cX11_box 8 = .ok (.ireturn, 1) := by decide +kernel
theorem dX11_box_9 : decode cX11_box 9 = .ok (.aload_n 0, 1) := by decide +kernel
theorem dX11_box_10 : decode cX11_box 10 = .ok (.getfield 19, 3) := by decide +kernel
theorem dX11_box_13 : decode cX11_box 13 = .ok (.iload_n 1, 1) := by decide +kernel
theorem dX11_box_14 : decode cX11_box 14 = .ok (.iaload, 1) := by decide +kernel
theorem dX11_box_15 : decode cX11_box 15 = .ok (.ifCond .ge 9, 3) := by decide +kernel
theorem dX11_box_18 : decode cX11_box 18 = .ok (.aload_n 0, 1) := by decide +kernel
theorem dX11_box_19 : decode cX11_box 19 = .ok (.iconst 1, 1) := by decide +kernel
theorem dX11_box_20 : decode cX11_box 20 = .ok (.invokevirtual 80, 3) := by decide +kernel
theorem dX11_box_23 : decode cX11_box 23 = .ok (.ireturn, 1) := by decide +kernel
theorem dX11_box_24 : decode cX11_box 24 = .ok (.aload_n 0, 1) := by decide +kernel
theorem dX11_box_25 : decode cX11_box 25 = .ok (.iload_n 1, 1) := by decide +kernel
theorem dX11_box_26 : decode cX11_box 26 = .ok (.invokevirtual 112, 3) := by decide +kernel
theorem dX11_box_29 : decode cX11_box 29 = .ok (.bipush (-9), 2) := by decide +kernel
theorem dX11_box_31 : decode cX11_box 31 = .ok (.if_icmp .eq 6, 3) := by decide +kernel
theorem dX11_box_34 : decode cX11_box 34 = .ok (.bipush (-4), 2) := by decide +kernel
theorem dX11_box_36 : decode cX11_box 36 = .ok (.ireturn, 1) := by decide +kernel
theorem dX11_box_37 : decode cX11_box 37 = .ok (.iconst 0, 1) := by decide +kernel
theorem dX11_box_38 : decode cX11_box 38 = .ok (.istore_n 2, 1) := by decide +kernel
theorem dX11_box_39 : decode cX11_box 39 = .ok (.iload_n 2, 1) := by decide +kernel
theorem dX11_box_40 : decode cX11_box 40 = .ok (.sipush 1568, 3) := by decide +kernel
theorem dX11_box_43 : decode cX11_box 43 = .ok (.if_icmp .ge 16, 3) := by decide +kernel
theorem dX11_box_46 : decode cX11_box 46 = .ok (.aload_n 0, 1) := by decide +kernel
theorem dX11_box_47 : decode cX11_box 47 = .ok (.getfield 7, 3) := by decide +kernel
theorem dX11_box_50 : decode cX11_box 50 = .ok (.iload_n 2, 1) := by decide +kernel
theorem dX11_box_51 : decode cX11_box 51 = .ok (.iconst 0, 1) := by decide +kernel
theorem dX11_box_52 : decode cX11_box 52 = .ok (.iastore, 1) := by decide +kernel
theorem dX11_box_53 : decode cX11_box 53 = .ok (.iinc 2 1, 3) := by decide +kernel
theorem dX11_box_56 : decode cX11_box 56 = .ok (.goto (-17), 3) := by decide +kernel
theorem dX11_box_59 : decode cX11_box 59 = .ok (.aload_n 0, 1) := by decide +kernel
theorem dX11_box_60 : decode cX11_box 60 = .ok (.getfield 7, 3) := by decide +kernel
theorem dX11_box_63 : decode cX11_box 63 = .ok (.iconst 0, 1) := by decide +kernel
theorem dX11_box_64 : decode cX11_box 64 = .ok (.aload_n 0, 1) := by decide +kernel
theorem dX11_box_65 : decode cX11_box 65 = .ok (.getfield 105, 3) := by decide +kernel
theorem dX11_box_68 : decode cX11_box 68 = .ok (.iastore, 1) := by decide +kernel
theorem dX11_box_69 : decode cX11_box 69 = .ok (.iconst 0, 1) := by decide +kernel
theorem dX11_box_70 : decode cX11_box 70 = .ok (.istore_n 2, 1) := by decide +kernel
theorem dX11_box_71 : decode cX11_box 71 = .ok (.iload_n 2, 1) := by decide +kernel
theorem dX11_box_72 : decode cX11_box 72 = .ok (.aload_n 0, 1) := by decide +kernel
theorem dX11_box_73 : decode cX11_box 73 = .ok (.getfield 105, 3) := by decide +kernel
theorem dX11_box_76 : decode cX11_box 76 = .ok (.if_icmp .ge 64, 3) := by decide +kernel
theorem dX11_box_79 : decode cX11_box 79 = .ok (.aload_n 0, 1) := by decide +kernel
theorem dX11_box_80 : decode cX11_box 80 = .ok (.getfield 7, 3) := by decide +kernel
theorem dX11_box_83 : decode cX11_box 83 = .ok (.bipush 10, 2) := by decide +kernel
theorem dX11_box_85 : decode cX11_box 85 = .ok (.iload_n 2, 1) := by decide +kernel
theorem dX11_box_86 : decode cX11_box 86 = .ok (.iadd, 1) := by decide +kernel
theorem dX11_box_87 : decode cX11_box 87 = .ok (.aload_n 0, 1) := by decide +kernel
theorem dX11_box_88 : decode cX11_box 88 = .ok (.getfield 35, 3) := by decide +kernel
theorem dX11_box_91 : decode cX11_box 91 = .ok (.iconst 3, 1) := by decide +kernel
theorem dX11_box_92 : decode cX11_box 92 = .ok (.iload_n 2, 1) := by decide +kernel
theorem dX11_box_93 : decode cX11_box 93 = .ok (.imul, 1) := by decide +kernel
theorem dX11_box_94 : decode cX11_box 94 = .ok (.iaload, 1) := by decide +kernel
theorem dX11_box_95 : decode cX11_box 95 = .ok (.iastore, 1) := by decide +kernel
theorem dX11_box_96 : decode cX11_box 96 = .ok (.aload_n 0, 1) := by decide +kernel
theorem dX11_box_97 : decode cX11_box 97 = .ok (.getfield 7, 3) := by decide +kernel
theorem dX11_box_100 : decode cX11_box 100 = .ok (.bipush 17, 2) := by decide +kernel
theorem dX11_box_102 : decode cX11_box 102 = .ok (.iload_n 2, 1) := by decide +kernel
theorem dX11_box_103 : decode cX11_box 103 = .ok (.iadd, 1) := by decide +kernel
theorem dX11_box_104 : decode cX11_box 104 = .ok (.aload_n 0, 1) := by decide +kernel
theorem dX11_box_105 : decode cX11_box 105 = .ok (.getfield 35, 3) := by decide +kernel
theorem dX11_box_108 : decode cX11_box 108 = .ok (.iconst 3, 1) := by decide +kernel
theorem dX11_box_109 : decode cX11_box 109 = .ok (.iload_n 2, 1) := by decide +kernel
theorem dX11_box_110 : decode cX11_box 110 = .ok (.imul, 1) := by decide +kernel
theorem dX11_box_111 : decode cX11_box 111 = .ok (.iconst 1, 1) := by decide +kernel
theorem dX11_box_112 : decode cX11_box 112 = .ok (.iadd, 1) := by decide +kernel
theorem dX11_box_113 : decode cX11_box 113 = .ok (.iaload, 1) := by decide +kernel
theorem dX11_box_114 : decode cX11_box 114 = .ok (.iastore, 1) := by decide +kernel
theorem dX11_box_115 : decode cX11_box 115 = .ok (.aload_n 0, 1) := by decide +kernel
theorem dX11_box_116 : decode cX11_box 116 = .ok (.getfield 7, 3) := by decide +kernel
theorem dX11_box_119 : decode cX11_box 119 = .ok (.bipush 24, 2) := by decide +kernel
theorem dX11_box_121 : decode cX11_box 121 = .ok (.iload_n 2, 1) := by decide +kernel
theorem dX11_box_122 : decode cX11_box 122 = .ok (.iadd, 1) := by decide +kernel
theorem dX11_box_123 : decode cX11_box 123 = .ok (.aload_n 0, 1) := by decide +kernel
theorem dX11_box_124 : decode cX11_box 124 = .ok (.getfield 35, 3) := by decide +kernel
theorem dX11_box_127 : decode cX11_box 127 = .ok (.iconst 3, 1) := by decide +kernel
theorem dX11_box_128 : decode cX11_box 128 = .ok (.iload_n 2, 1) := by decide +kernel
theorem dX11_box_129 : decode cX11_box 129 = .ok (.imul, 1) := by decide +kernel
theorem dX11_box_130 : decode cX11_box 130 = .ok (.iconst 2, 1) := by decide +kernel
theorem dX11_box_131 : decode cX11_box 131 = .ok (.iadd, 1) := by decide +kernel
theorem dX11_box_132 : decode cX11_box 132 = .ok (.iaload, 1) := by decide +kernel
theorem dX11_box_133 : decode cX11_box 133 = .ok (.iastore, 1) := by decide +kernel
theorem dX11_box_134 : decode cX11_box 134 = .ok (.iinc 2 1, 3) := by decide +kernel
theorem dX11_box_137 : decode cX11_box 137 = .ok (.goto (-66), 3) := by decide +kernel
theorem dX11_box_140 : decode cX11_box 140 = .ok (.aload_n 0, 1) := by decide +kernel
theorem dX11_box_141 : decode cX11_box 141 = .ok (.getfield 105, 3) := by decide +kernel
theorem dX11_box_144 : decode cX11_box 144 = .ok (.ireturn, 1) := by decide +kernel
theorem dX11_worn_0 : decode cX11_worn 0 = .ok (.iload_n 2, 1) := by decide +kernel
theorem dX11_worn_1 : decode cX11_worn 1 = .ok (.iload_n 1, 1) := by decide +kernel
theorem dX11_worn_2 : decode cX11_worn 2 = .ok (.if_icmp .ne 12, 3) := by decide +kernel
theorem dX11_worn_5 : decode cX11_worn 5 = .ok (.iload_n 0, 1) := by decide +kernel
theorem dX11_worn_6 : decode cX11_worn 6 = .ok (.iload_n 2, 1) := by decide +kernel
theorem dX11_worn_7 : decode cX11_worn 7 = .ok (.imul, 1) := by decide +kernel
theorem dX11_worn_8 : decode cX11_worn 8 = .ok (.bipush 10, 2) := by decide +kernel
theorem dX11_worn_10 : decode cX11_worn 10 = .ok (.irem, 1) := by decide +kernel
theorem dX11_worn_11 : decode cX11_worn 11 = .ok (.goto 6, 3) := by decide +kernel
theorem dX11_worn_14 : decode cX11_worn 14 = .ok (.iload_n 0, 1) := by decide +kernel
theorem dX11_worn_15 : decode cX11_worn 15 = .ok (.iload_n 2, 1) := by decide +kernel
theorem dX11_worn_16 : decode cX11_worn 16 = .ok (.imul, 1) := by decide +kernel
theorem dX11_worn_17 : decode cX11_worn 17 = .ok (.ireturn, 1) := by decide +kernel
theorem dX11_showsBy_0 : decode cX11_showsBy 0 = .ok (.iload_n 0, 1) := by decide +kernel
theorem dX11_showsBy_1 : decode cX11_showsBy 1 = .ok (.tableswitch 107 1 5 #[35, 42, 49, 65, 89], 35) := by decide +kernel
theorem dX11_showsBy_36 : decode cX11_showsBy 36 = .ok (.iload_n 1, 1) := by decide +kernel
theorem dX11_showsBy_37 : decode cX11_showsBy 37 = .ok (.iload_n 2, 1) := by decide +kernel
theorem dX11_showsBy_38 : decode cX11_showsBy 38 = .ok (.iload_n 3, 1) := by decide +kernel
theorem dX11_showsBy_39 : decode cX11_showsBy 39 = .ok (.invokestatic 115, 3) := by decide +kernel
theorem dX11_showsBy_42 : decode cX11_showsBy 42 = .ok (.ireturn, 1) := by decide +kernel
theorem dX11_showsBy_43 : decode cX11_showsBy 43 = .ok (.bipush 9, 2) := by decide +kernel
theorem dX11_showsBy_45 : decode cX11_showsBy 45 = .ok (.iload_n 1, 1) := by decide +kernel
theorem dX11_showsBy_46 : decode cX11_showsBy 46 = .ok (.isub, 1) := by decide +kernel
theorem dX11_showsBy_47 : decode cX11_showsBy 47 = .ok (.iload_n 3, 1) := by decide +kernel
theorem dX11_showsBy_48 : decode cX11_showsBy 48 = .ok (.imul, 1) := by decide +kernel
theorem dX11_showsBy_49 : decode cX11_showsBy 49 = .ok (.ireturn, 1) := by decide +kernel
theorem dX11_showsBy_50 : decode cX11_showsBy 50 = .ok (.iload_n 3, 1) := by decide +kernel
theorem dX11_showsBy_51 : decode cX11_showsBy 51 = .ok (.bipush 9, 2) := by decide +kernel
theorem dX11_showsBy_53 : decode cX11_showsBy 53 = .ok (.if_icmp .ne 7, 3) := by decide +kernel
theorem dX11_showsBy_56 : decode cX11_showsBy 56 = .ok (.iload_n 1, 1) := by decide +kernel
theorem dX11_showsBy_57 : decode cX11_showsBy 57 = .ok (.goto 8, 3) := by decide +kernel
theorem dX11_showsBy_60 : decode cX11_showsBy 60 = .ok (.iload_n 1, 1) := by decide +kernel
theorem dX11_showsBy_61 : decode cX11_showsBy 61 = .ok (.iload_n 3, 1) := by decide +kernel
theorem dX11_showsBy_62 : decode cX11_showsBy 62 = .ok (.iconst 1, 1) := by decide +kernel
theorem dX11_showsBy_63 : decode cX11_showsBy 63 = .ok (.iadd, 1) := by decide +kernel
theorem dX11_showsBy_64 : decode cX11_showsBy 64 = .ok (.imul, 1) := by decide +kernel
theorem dX11_showsBy_65 : decode cX11_showsBy 65 = .ok (.ireturn, 1) := by decide +kernel
theorem dX11_showsBy_66 : decode cX11_showsBy 66 = .ok (.iload_n 3, 1) := by decide +kernel
theorem dX11_showsBy_67 : decode cX11_showsBy 67 = .ok (.bipush 9, 2) := by decide +kernel
theorem dX11_showsBy_69 : decode cX11_showsBy 69 = .ok (.iload_n 2, 1) := by decide +kernel
theorem dX11_showsBy_70 : decode cX11_showsBy 70 = .ok (.isub, 1) := by decide +kernel
theorem dX11_showsBy_71 : decode cX11_showsBy 71 = .ok (.if_icmp .le 12, 3) := by decide +kernel
theorem dX11_showsBy_74 : decode cX11_showsBy 74 = .ok (.iload_n 1, 1) := by decide +kernel
theorem dX11_showsBy_75 : decode cX11_showsBy 75 = .ok (.iload_n 3, 1) := by decide +kernel
theorem dX11_showsBy_76 : decode cX11_showsBy 76 = .ok (.imul, 1) := by decide +kernel
theorem dX11_showsBy_77 : decode cX11_showsBy 77 = .ok (.bipush 10, 2) := by decide +kernel
theorem dX11_showsBy_79 : decode cX11_showsBy 79 = .ok (.irem, 1) := by decide +kernel
theorem dX11_showsBy_80 : decode cX11_showsBy 80 = .ok (.goto 9, 3) := by decide +kernel
theorem dX11_showsBy_83 : decode cX11_showsBy 83 = .ok (.iload_n 1, 1) := by decide +kernel
theorem dX11_showsBy_84 : decode cX11_showsBy 84 = .ok (.iload_n 2, 1) := by decide +kernel
theorem dX11_showsBy_85 : decode cX11_showsBy 85 = .ok (.iload_n 3, 1) := by decide +kernel
theorem dX11_showsBy_86 : decode cX11_showsBy 86 = .ok (.invokestatic 115, 3) := by decide +kernel
theorem dX11_showsBy_89 : decode cX11_showsBy 89 = .ok (.ireturn, 1) := by decide +kernel
theorem dX11_showsBy_90 : decode cX11_showsBy 90 = .ok (.iload_n 3, 1) := by decide +kernel
theorem dX11_showsBy_91 : decode cX11_showsBy 91 = .ok (.iload_n 2, 1) := by decide +kernel
theorem dX11_showsBy_92 : decode cX11_showsBy 92 = .ok (.if_icmp .lt 9, 3) := by decide +kernel
theorem dX11_showsBy_95 : decode cX11_showsBy 95 = .ok (.iload_n 1, 1) := by decide +kernel
theorem dX11_showsBy_96 : decode cX11_showsBy 96 = .ok (.iload_n 3, 1) := by decide +kernel
theorem dX11_showsBy_97 : decode cX11_showsBy 97 = .ok (.imul, 1) := by decide +kernel
theorem dX11_showsBy_98 : decode cX11_showsBy 98 = .ok (.goto 9, 3) := by decide +kernel
theorem dX11_showsBy_101 : decode cX11_showsBy 101 = .ok (.bipush 9, 2) := by decide +kernel
theorem dX11_showsBy_103 : decode cX11_showsBy 103 = .ok (.iload_n 1, 1) := by decide +kernel
theorem dX11_showsBy_104 : decode cX11_showsBy 104 = .ok (.isub, 1) := by decide +kernel
theorem dX11_showsBy_105 : decode cX11_showsBy 105 = .ok (.iload_n 3, 1) := by decide +kernel
theorem dX11_showsBy_106 : decode cX11_showsBy 106 = .ok (.imul, 1) := by decide +kernel
theorem dX11_showsBy_107 : decode cX11_showsBy 107 = .ok (.ireturn, 1) := by decide +kernel
theorem dX11_showsBy_108 : decode cX11_showsBy 108 = .ok (.iload_n 1, 1) := by decide +kernel
theorem dX11_showsBy_109 : decode cX11_showsBy 109 = .ok (.iload_n 3, 1) := by decide +kernel
theorem dX11_showsBy_110 : decode cX11_showsBy 110 = .ok (.imul, 1) := by decide +kernel
theorem dX11_showsBy_111 : decode cX11_showsBy 111 = .ok (.ireturn, 1) := by decide +kernel
theorem dX11_digitOf_0 : decode cX11_digitOf 0 = .ok (.aload_n 0, 1) := by decide +kernel
theorem dX11_digitOf_1 : decode cX11_digitOf 1 = .ok (.getfield 7, 3) := by decide +kernel
theorem dX11_digitOf_4 : decode cX11_digitOf 4 = .ok (.iconst 2, 1) := by decide +kernel
theorem dX11_digitOf_5 : decode cX11_digitOf 5 = .ok (.iaload, 1) := by decide +kernel
theorem dX11_digitOf_6 : decode cX11_digitOf 6 = .ok (.iload_n 1, 1) := by decide +kernel
theorem dX11_digitOf_7 : decode cX11_digitOf 7 = .ok (.invokestatic 119, 3) := by decide +kernel
theorem dX11_digitOf_10 : decode cX11_digitOf 10 = .ok (.ifCond .eq 18, 3) := by decide +kernel
theorem dX11_digitOf_13 : decode cX11_digitOf 13 = .ok (.bipush 9, 2) := by decide +kernel
theorem dX11_digitOf_15 : decode cX11_digitOf 15 = .ok (.aload_n 0, 1) := by decide +kernel
theorem dX11_digitOf_16 : decode cX11_digitOf 16 = .ok (.getfield 7, 3) := by decide +kernel
theorem dX11_digitOf_19 : decode cX11_digitOf 19 = .ok (.bipush 17, 2) := by decide +kernel
theorem dX11_digitOf_21 : decode cX11_digitOf 21 = .ok (.iload_n 1, 1) := by decide +kernel
theorem dX11_digitOf_22 : decode cX11_digitOf 22 = .ok (.iadd, 1) := by decide +kernel
theorem dX11_digitOf_23 : decode cX11_digitOf 23 = .ok (.iaload, 1) := by decide +kernel
theorem dX11_digitOf_24 : decode cX11_digitOf 24 = .ok (.isub, 1) := by decide +kernel
theorem dX11_digitOf_25 : decode cX11_digitOf 25 = .ok (.goto 12, 3) := by decide +kernel
theorem dX11_digitOf_28 : decode cX11_digitOf 28 = .ok (.aload_n 0, 1) := by decide +kernel
theorem dX11_digitOf_29 : decode cX11_digitOf 29 = .ok (.getfield 7, 3) := by decide +kernel
theorem dX11_digitOf_32 : decode cX11_digitOf 32 = .ok (.bipush 17, 2) := by decide +kernel
theorem dX11_digitOf_34 : decode cX11_digitOf 34 = .ok (.iload_n 1, 1) := by decide +kernel
theorem dX11_digitOf_35 : decode cX11_digitOf 35 = .ok (.iadd, 1) := by decide +kernel
theorem dX11_digitOf_36 : decode cX11_digitOf 36 = .ok (.iaload, 1) := by decide +kernel
theorem dX11_digitOf_37 : decode cX11_digitOf 37 = .ok (.ireturn, 1) := by decide +kernel
theorem dX11_showsOf_0 : decode cX11_showsOf 0 = .ok (.aload_n 0, 1) := by decide +kernel
theorem dX11_showsOf_1 : decode cX11_showsOf 1 = .ok (.getfield 7, 3) := by decide +kernel
theorem dX11_showsOf_4 : decode cX11_showsOf 4 = .ok (.bipush 10, 2) := by decide +kernel
theorem dX11_showsOf_6 : decode cX11_showsOf 6 = .ok (.iload_n 1, 1) := by decide +kernel
theorem dX11_showsOf_7 : decode cX11_showsOf 7 = .ok (.iadd, 1) := by decide +kernel
theorem dX11_showsOf_8 : decode cX11_showsOf 8 = .ok (.iaload, 1) := by decide +kernel
theorem dX11_showsOf_9 : decode cX11_showsOf 9 = .ok (.aload_n 0, 1) := by decide +kernel
theorem dX11_showsOf_10 : decode cX11_showsOf 10 = .ok (.iload_n 1, 1) := by decide +kernel
theorem dX11_showsOf_11 : decode cX11_showsOf 11 = .ok (.invokevirtual 123, 3) := by decide +kernel
theorem dX11_showsOf_14 : decode cX11_showsOf 14 = .ok (.aload_n 0, 1) := by decide +kernel
theorem dX11_showsOf_15 : decode cX11_showsOf 15 = .ok (.getfield 7, 3) := by decide +kernel
theorem dX11_showsOf_18 : decode cX11_showsOf 18 = .ok (.bipush 24, 2) := by decide +kernel
theorem dX11_showsOf_20 : decode cX11_showsOf 20 = .ok (.iload_n 1, 1) := by decide +kernel
theorem dX11_showsOf_21 : decode cX11_showsOf 21 = .ok (.iadd, 1) := by decide +kernel
theorem dX11_showsOf_22 : decode cX11_showsOf 22 = .ok (.iaload, 1) := by decide +kernel
theorem dX11_showsOf_23 : decode cX11_showsOf 23 = .ok (.iload_n 2, 1) := by decide +kernel
theorem dX11_showsOf_24 : decode cX11_showsOf 24 = .ok (.invokestatic 126, 3) := by decide +kernel
theorem dX11_showsOf_27 : decode cX11_showsOf 27 = .ok (.ireturn, 1) := by decide +kernel
theorem dX11_placeOf_0 : decode cX11_placeOf 0 = .ok (.iconst 0, 1) := by decide +kernel
theorem dX11_placeOf_1 : decode cX11_placeOf 1 = .ok (.istore_n 2, 1) := by decide +kernel
theorem dX11_placeOf_2 : decode cX11_placeOf 2 = .ok (.iload_n 2, 1) := by decide +kernel
theorem dX11_placeOf_3 : decode cX11_placeOf 3 = .ok (.aload_n 0, 1) := by decide +kernel
theorem dX11_placeOf_4 : decode cX11_placeOf 4 = .ok (.getfield 7, 3) := by decide +kernel
theorem dX11_placeOf_7 : decode cX11_placeOf 7 = .ok (.iconst 1, 1) := by decide +kernel
theorem dX11_placeOf_8 : decode cX11_placeOf 8 = .ok (.iaload, 1) := by decide +kernel
theorem dX11_placeOf_9 : decode cX11_placeOf 9 = .ok (.if_icmp .ge 23, 3) := by decide +kernel
theorem dX11_placeOf_12 : decode cX11_placeOf 12 = .ok (.aload_n 0, 1) := by decide +kernel
theorem dX11_placeOf_13 : decode cX11_placeOf 13 = .ok (.getfield 7, 3) := by decide +kernel
theorem dX11_placeOf_16 : decode cX11_placeOf 16 = .ok (.iconst 3, 1) := by decide +kernel
theorem dX11_placeOf_17 : decode cX11_placeOf 17 = .ok (.iload_n 2, 1) := by decide +kernel
theorem dX11_placeOf_18 : decode cX11_placeOf 18 = .ok (.iadd, 1) := by decide +kernel
theorem dX11_placeOf_19 : decode cX11_placeOf 19 = .ok (.iaload, 1) := by decide +kernel
theorem dX11_placeOf_20 : decode cX11_placeOf 20 = .ok (.iload_n 1, 1) := by decide +kernel
theorem dX11_placeOf_21 : decode cX11_placeOf 21 = .ok (.if_icmp .ne 5, 3) := by decide +kernel
theorem dX11_placeOf_24 : decode cX11_placeOf 24 = .ok (.iload_n 2, 1) := by decide +kernel
theorem dX11_placeOf_25 : decode cX11_placeOf 25 = .ok (.ireturn, 1) := by decide +kernel
theorem dX11_placeOf_26 : decode cX11_placeOf 26 = .ok (.iinc 2 1, 3) := by decide +kernel
theorem dX11_placeOf_29 : decode cX11_placeOf 29 = .ok (.goto (-27), 3) := by decide +kernel
theorem dX11_placeOf_32 : decode cX11_placeOf 32 = .ok (.bipush (-9), 2) := by decide +kernel
theorem dX11_placeOf_34 : decode cX11_placeOf 34 = .ok (.ireturn, 1) := by decide +kernel
theorem dX11_rodOf_0 : decode cX11_rodOf 0 = .ok (.iload_n 2, 1) := by decide +kernel
theorem dX11_rodOf_1 : decode cX11_rodOf 1 = .ok (.tableswitch 63 0 3 #[31, 41, 47, 57], 31) := by decide +kernel
theorem dX11_rodOf_32 : decode cX11_rodOf 32 = .ok (.aload_n 0, 1) := by decide +kernel
theorem dX11_rodOf_33 : decode cX11_rodOf 33 = .ok (.getfield 7, 3) := by decide +kernel
theorem dX11_rodOf_36 : decode cX11_rodOf 36 = .ok (.bipush 10, 2) := by decide +kernel
theorem dX11_rodOf_38 : decode cX11_rodOf 38 = .ok (.iload_n 1, 1) := by decide +kernel
theorem dX11_rodOf_39 : decode cX11_rodOf 39 = .ok (.iadd, 1) := by decide +kernel
theorem dX11_rodOf_40 : decode cX11_rodOf 40 = .ok (.iaload, 1) := by decide +kernel
theorem dX11_rodOf_41 : decode cX11_rodOf 41 = .ok (.ireturn, 1) := by decide +kernel
theorem dX11_rodOf_42 : decode cX11_rodOf 42 = .ok (.aload_n 0, 1) := by decide +kernel
theorem dX11_rodOf_43 : decode cX11_rodOf 43 = .ok (.iload_n 1, 1) := by decide +kernel
theorem dX11_rodOf_44 : decode cX11_rodOf 44 = .ok (.invokevirtual 123, 3) := by decide +kernel
theorem dX11_rodOf_47 : decode cX11_rodOf 47 = .ok (.ireturn, 1) := by decide +kernel
theorem dX11_rodOf_48 : decode cX11_rodOf 48 = .ok (.aload_n 0, 1) := by decide +kernel
theorem dX11_rodOf_49 : decode cX11_rodOf 49 = .ok (.getfield 7, 3) := by decide +kernel
theorem dX11_rodOf_52 : decode cX11_rodOf 52 = .ok (.bipush 24, 2) := by decide +kernel
theorem dX11_rodOf_54 : decode cX11_rodOf 54 = .ok (.iload_n 1, 1) := by decide +kernel
theorem dX11_rodOf_55 : decode cX11_rodOf 55 = .ok (.iadd, 1) := by decide +kernel
theorem dX11_rodOf_56 : decode cX11_rodOf 56 = .ok (.iaload, 1) := by decide +kernel
theorem dX11_rodOf_57 : decode cX11_rodOf 57 = .ok (.ireturn, 1) := by decide +kernel
theorem dX11_rodOf_58 : decode cX11_rodOf 58 = .ok (.aload_n 0, 1) := by decide +kernel
theorem dX11_rodOf_59 : decode cX11_rodOf 59 = .ok (.iload_n 1, 1) := by decide +kernel
theorem dX11_rodOf_60 : decode cX11_rodOf 60 = .ok (.invokevirtual 130, 3) := by decide +kernel
theorem dX11_rodOf_63 : decode cX11_rodOf 63 = .ok (.ireturn, 1) := by decide +kernel
theorem dX11_rodOf_64 : decode cX11_rodOf 64 = .ok (.aload_n 0, 1) := by decide +kernel
theorem dX11_rodOf_65 : decode cX11_rodOf 65 = .ok (.getfield 7, 3) := by decide +kernel
theorem dX11_rodOf_68 : decode cX11_rodOf 68 = .ok (.iconst 2, 1) := by decide +kernel
theorem dX11_rodOf_69 : decode cX11_rodOf 69 = .ok (.iaload, 1) := by decide +kernel
theorem dX11_rodOf_70 : decode cX11_rodOf 70 = .ok (.iload_n 1, 1) := by decide +kernel
theorem dX11_rodOf_71 : decode cX11_rodOf 71 = .ok (.ishr, 1) := by decide +kernel
theorem dX11_rodOf_72 : decode cX11_rodOf 72 = .ok (.iconst 1, 1) := by decide +kernel
theorem dX11_rodOf_73 : decode cX11_rodOf 73 = .ok (.iand, 1) := by decide +kernel
theorem dX11_rodOf_74 : decode cX11_rodOf 74 = .ok (.ireturn, 1) := by decide +kernel
theorem dX11_rod_0 : decode cX11_rod 0 = .ok (.aload_n 0, 1) := by decide +kernel
theorem dX11_rod_1 : decode cX11_rod 1 = .ok (.iload_n 1, 1) := by decide +kernel
theorem dX11_rod_2 : decode cX11_rod 2 = .ok (.invokevirtual 133, 3) := by decide +kernel
theorem dX11_rod_5 : decode cX11_rod 5 = .ok (.ifCond .eq 28, 3) := by decide +kernel
theorem dX11_rod_8 : decode cX11_rod 8 = .ok (.iload_n 2, 1) := by decide +kernel
theorem dX11_rod_9 : decode cX11_rod 9 = .ok (.i2l, 1) := by decide +kernel
theorem dX11_rod_10 : decode cX11_rod 10 = .ok (.lconst 0, 1) := by decide +kernel
theorem dX11_rod_11 : decode cX11_rod 11 = .ok (.ldc2_w 136, 3) := by decide +kernel
theorem dX11_rod_14 : decode cX11_rod 14 = .ok (.invokestatic 68, 3) := by decide +kernel
theorem dX11_rod_17 : decode cX11_rod 17 = .ok (.ifCond .eq 16, 3) := by decide +kernel
theorem dX11_rod_20 : decode cX11_rod 20 = .ok (.aload_n 0, 1) := by decide +kernel
theorem dX11_rod_21 : decode cX11_rod 21 = .ok (.aload_n 0, 1) := by decide +kernel
theorem dX11_rod_22 : decode cX11_rod 22 = .ok (.iload_n 1, 1) := by decide +kernel
theorem dX11_rod_23 : decode cX11_rod 23 = .ok (.iload_n 2, 1) := by decide +kernel
theorem dX11_rod_24 : decode cX11_rod 24 = .ok (.invokevirtual 138, 3) := by decide +kernel
theorem dX11_rod_27 : decode cX11_rod 27 = .ok (.invokevirtual 83, 3) := by decide +kernel
theorem dX11_rod_30 : decode cX11_rod 30 = .ok (.goto 4, 3) := by decide +kernel
theorem dX11_rod_33 : decode cX11_rod 33 = .ok (.iconst (-1), 1) := by decide +kernel
theorem dX11_rod_34 : decode cX11_rod 34 = .ok (.ireturn, 1) := by decide +kernel
theorem dX11_isA_0 : decode cX11_isA 0 = .ok (.iload_n 1, 1) := by decide +kernel
theorem dX11_isA_1 : decode cX11_isA 1 = .ok (.iload_n 0, 1) := by decide +kernel
theorem dX11_isA_2 : decode cX11_isA 2 = .ok (.if_icmp .eq 23, 3) := by decide +kernel
theorem dX11_isA_5 : decode cX11_isA 5 = .ok (.iload_n 1, 1) := by decide +kernel
theorem dX11_isA_6 : decode cX11_isA 6 = .ok (.iconst 1, 1) := by decide +kernel
theorem dX11_isA_7 : decode cX11_isA 7 = .ok (.if_icmp .ne 8, 3) := by decide +kernel
theorem dX11_isA_10 : decode cX11_isA 10 = .ok (.iload_n 0, 1) := by decide +kernel
theorem dX11_isA_11 : decode cX11_isA 11 = .ok (.iconst 4, 1) := by decide +kernel
theorem dX11_isA_12 : decode cX11_isA 12 = .ok (.if_icmp .eq 13, 3) := by decide +kernel
theorem dX11_isA_15 : decode cX11_isA 15 = .ok (.iload_n 1, 1) := by decide +kernel
theorem dX11_isA_16 : decode cX11_isA 16 = .ok (.iconst 2, 1) := by decide +kernel
theorem dX11_isA_17 : decode cX11_isA 17 = .ok (.if_icmp .ne 12, 3) := by decide +kernel
theorem dX11_isA_20 : decode cX11_isA 20 = .ok (.iload_n 0, 1) := by decide +kernel
theorem dX11_isA_21 : decode cX11_isA 21 = .ok (.iconst 5, 1) := by decide +kernel
theorem dX11_isA_22 : decode cX11_isA 22 = .ok (.if_icmp .ne 7, 3) := by decide +kernel
theorem dX11_isA_25 : decode cX11_isA 25 = .ok (.iconst 1, 1) := by decide +kernel
theorem dX11_isA_26 : decode cX11_isA 26 = .ok (.goto 4, 3) := by decide +kernel
theorem dX11_isA_29 : decode cX11_isA 29 = .ok (.iconst 0, 1) := by decide +kernel
theorem dX11_isA_30 : decode cX11_isA 30 = .ok (.ireturn, 1) := by decide +kernel
theorem dX11_linesAgainst_0 : decode cX11_linesAgainst 0 = .ok (.iconst 0, 1) := by decide +kernel
theorem dX11_linesAgainst_1 : decode cX11_linesAgainst 1 = .ok (.istore 4, 2) := by decide +kernel
theorem dX11_linesAgainst_3 : decode cX11_linesAgainst 3 = .ok (.iconst 1, 1) := by decide +kernel
theorem dX11_linesAgainst_4 : decode cX11_linesAgainst 4 = .ok (.istore 5, 2) := by decide +kernel
theorem dX11_linesAgainst_6 : decode cX11_linesAgainst 6 = .ok (.iload 5, 2) := by decide +kernel
theorem dX11_linesAgainst_8 : decode cX11_linesAgainst 8 = .ok (.bipush 10, 2) := by decide +kernel
theorem dX11_linesAgainst_10 : decode cX11_linesAgainst 10 = .ok (.if_icmp .ge 83, 3) := by decide +kernel
theorem dX11_linesAgainst_13 : decode cX11_linesAgainst 13 = .ok (.aload_n 0, 1) := by decide +kernel
theorem dX11_linesAgainst_14 : decode cX11_linesAgainst 14 = .ok (.iload_n 1, 1) := by decide +kernel
theorem dX11_linesAgainst_15 : decode cX11_linesAgainst 15 = .ok (.iload 5, 2) := by decide +kernel
theorem dX11_linesAgainst_17 : decode cX11_linesAgainst 17 = .ok (.invokevirtual 142, 3) := by decide +kernel
theorem dX11_linesAgainst_20 : decode cX11_linesAgainst 20 = .ok (.istore 6, 2) := by decide +kernel
theorem dX11_linesAgainst_22 : decode cX11_linesAgainst 22 = .ok (.iload_n 2, 1) := by decide +kernel
theorem dX11_linesAgainst_23 : decode cX11_linesAgainst 23 = .ok (.aload_n 0, 1) := by decide +kernel
theorem dX11_linesAgainst_24 : decode cX11_linesAgainst 24 = .ok (.iload_n 1, 1) := by decide +kernel
theorem dX11_linesAgainst_25 : decode cX11_linesAgainst 25 = .ok (.invokevirtual 123, 3) := by decide +kernel
theorem dX11_linesAgainst_28 : decode cX11_linesAgainst 28 = .ok (.aload_n 0, 1) := by decide +kernel
theorem dX11_linesAgainst_29 : decode cX11_linesAgainst 29 = .ok (.getfield 7, 3) := by decide +kernel
theorem dX11_linesAgainst_32 : decode cX11_linesAgainst 32 = .ok (.bipush 24, 2) := by decide +kernel
theorem dX11_linesAgainst_34 : decode cX11_linesAgainst 34 = .ok (.iload_n 1, 1) := by decide +kernel
theorem dX11_linesAgainst_35 : decode cX11_linesAgainst 35 = .ok (.iadd, 1) := by decide +kernel
theorem dX11_linesAgainst_36 : decode cX11_linesAgainst 36 = .ok (.iaload, 1) := by decide +kernel
theorem dX11_linesAgainst_37 : decode cX11_linesAgainst 37 = .ok (.iload 5, 2) := by decide +kernel
theorem dX11_linesAgainst_39 : decode cX11_linesAgainst 39 = .ok (.invokestatic 126, 3) := by decide +kernel
theorem dX11_linesAgainst_42 : decode cX11_linesAgainst 42 = .ok (.istore 7, 2) := by decide +kernel
theorem dX11_linesAgainst_44 : decode cX11_linesAgainst 44 = .ok (.iload 4, 2) := by decide +kernel
theorem dX11_linesAgainst_46 : decode cX11_linesAgainst 46 = .ok (.iload_n 3, 1) := by decide +kernel
theorem dX11_linesAgainst_47 : decode cX11_linesAgainst 47 = .ok (.ifCond .ge 10, 3) := by decide +kernel
theorem dX11_linesAgainst_50 : decode cX11_linesAgainst 50 = .ok (.iload 6, 2) := by decide +kernel
theorem dX11_linesAgainst_52 : decode cX11_linesAgainst 52 = .ok (.iload 7, 2) := by decide +kernel
theorem dX11_linesAgainst_54 : decode cX11_linesAgainst 54 = .ok (.if_icmp .lt 25, 3) := by decide +kernel
theorem dX11_linesAgainst_57 : decode cX11_linesAgainst 57 = .ok (.iload_n 3, 1) := by decide +kernel
theorem dX11_linesAgainst_58 : decode cX11_linesAgainst 58 = .ok (.ifCond .le 10, 3) := by decide +kernel
theorem dX11_linesAgainst_61 : decode cX11_linesAgainst 61 = .ok (.iload 6, 2) := by decide +kernel
theorem dX11_linesAgainst_63 : decode cX11_linesAgainst 63 = .ok (.iload 7, 2) := by decide +kernel
theorem dX11_linesAgainst_65 : decode cX11_linesAgainst 65 = .ok (.if_icmp .gt 14, 3) := by decide +kernel
theorem dX11_linesAgainst_68 : decode cX11_linesAgainst 68 = .ok (.iload_n 3, 1) := by decide +kernel
theorem dX11_linesAgainst_69 : decode cX11_linesAgainst 69 = .ok (.ifCond .ne 14, 3) := by decide +kernel
theorem dX11_linesAgainst_72 : decode cX11_linesAgainst 72 = .ok (.iload 6, 2) := by decide +kernel
theorem dX11_linesAgainst_74 : decode cX11_linesAgainst 74 = .ok (.iload 7, 2) := by decide +kernel
theorem dX11_linesAgainst_76 : decode cX11_linesAgainst 76 = .ok (.if_icmp .eq 7, 3) := by decide +kernel
theorem dX11_linesAgainst_79 : decode cX11_linesAgainst 79 = .ok (.iconst 1, 1) := by decide +kernel
theorem dX11_linesAgainst_80 : decode cX11_linesAgainst 80 = .ok (.goto 4, 3) := by decide +kernel
theorem dX11_linesAgainst_83 : decode cX11_linesAgainst 83 = .ok (.iconst 0, 1) := by decide +kernel
theorem dX11_linesAgainst_84 : decode cX11_linesAgainst 84 = .ok (.iadd, 1) := by decide +kernel
theorem dX11_linesAgainst_85 : decode cX11_linesAgainst 85 = .ok (.istore 4, 2) := by decide +kernel
theorem dX11_linesAgainst_87 : decode cX11_linesAgainst 87 = .ok (.iinc 5 1, 3) := by decide +kernel
theorem dX11_linesAgainst_90 : decode cX11_linesAgainst 90 = .ok (.goto (-84), 3) := by decide +kernel
theorem dX11_linesAgainst_93 : decode cX11_linesAgainst 93 = .ok (.iload 4, 2) := by decide +kernel
theorem dX11_linesAgainst_95 : decode cX11_linesAgainst 95 = .ok (.ireturn, 1) := by decide +kernel
theorem dX11_mark_0 : decode cX11_mark 0 = .ok (.aload_n 0, 1) := by decide +kernel
theorem dX11_mark_1 : decode cX11_mark 1 = .ok (.iload_n 1, 1) := by decide +kernel
theorem dX11_mark_2 : decode cX11_mark 2 = .ok (.invokevirtual 133, 3) := by decide +kernel
theorem dX11_mark_5 : decode cX11_mark 5 = .ok (.ifCond .eq 15, 3) := by decide +kernel
theorem dX11_mark_8 : decode cX11_mark 8 = .ok (.iload_n 2, 1) := by decide +kernel
theorem dX11_mark_9 : decode cX11_mark 9 = .ok (.i2l, 1) := by decide +kernel
theorem dX11_mark_10 : decode cX11_mark 10 = .ok (.lconst 1, 1) := by decide +kernel
theorem dX11_mark_11 : decode cX11_mark 11 = .ok (.ldc2_w 66, 3) := by decide +kernel
theorem dX11_mark_14 : decode cX11_mark 14 = .ok (.invokestatic 68, 3) := by decide +kernel
theorem dX11_mark_17 : decode cX11_mark 17 = .ok (.ifCond .ne 5, 3) := by decide +kernel
theorem dX11_mark_20 : decode cX11_mark 20 = .ok (.iconst (-1), 1) := by decide +kernel
theorem dX11_mark_21 : decode cX11_mark 21 = .ok (.ireturn, 1) := by decide +kernel
theorem dX11_mark_22 : decode cX11_mark 22 = .ok (.aload_n 0, 1) := by decide +kernel
theorem dX11_mark_23 : decode cX11_mark 23 = .ok (.getfield 7, 3) := by decide +kernel
theorem dX11_mark_26 : decode cX11_mark 26 = .ok (.bipush 10, 2) := by decide +kernel
theorem dX11_mark_28 : decode cX11_mark 28 = .ok (.iload_n 1, 1) := by decide +kernel
theorem dX11_mark_29 : decode cX11_mark 29 = .ok (.iadd, 1) := by decide +kernel
theorem dX11_mark_30 : decode cX11_mark 30 = .ok (.iaload, 1) := by decide +kernel
theorem dX11_mark_31 : decode cX11_mark 31 = .ok (.iload_n 2, 1) := by decide +kernel
theorem dX11_mark_32 : decode cX11_mark 32 = .ok (.invokestatic 145, 3) := by decide +kernel
theorem dX11_mark_35 : decode cX11_mark 35 = .ok (.ifCond .ne 9, 3) := by decide +kernel
theorem dX11_mark_38 : decode cX11_mark 38 = .ok (.aload_n 0, 1) := by decide +kernel
theorem dX11_mark_39 : decode cX11_mark 39 = .ok (.iconst 3, 1) := by decide +kernel
theorem dX11_mark_40 : decode cX11_mark 40 = .ok (.invokevirtual 80, 3) := by decide +kernel
theorem dX11_mark_43 : decode cX11_mark 43 = .ok (.ireturn, 1) := by decide +kernel
theorem dX11_mark_44 : decode cX11_mark 44 = .ok (.aload_n 0, 1) := by decide +kernel
theorem dX11_mark_45 : decode cX11_mark 45 = .ok (.getfield 7, 3) := by decide +kernel
theorem dX11_mark_48 : decode cX11_mark 48 = .ok (.bipush 24, 2) := by decide +kernel
theorem dX11_mark_50 : decode cX11_mark 50 = .ok (.iload_n 1, 1) := by decide +kernel
theorem dX11_mark_51 : decode cX11_mark 51 = .ok (.iadd, 1) := by decide +kernel
theorem dX11_mark_52 : decode cX11_mark 52 = .ok (.iaload, 1) := by decide +kernel
theorem dX11_mark_53 : decode cX11_mark 53 = .ok (.istore_n 3, 1) := by decide +kernel
theorem dX11_mark_54 : decode cX11_mark 54 = .ok (.iload_n 2, 1) := by decide +kernel
theorem dX11_mark_55 : decode cX11_mark 55 = .ok (.tableswitch 82 1 4 #[29, 37, 45, 74], 29) := by decide +kernel
theorem dX11_mark_84 : decode cX11_mark 84 = .ok (.aload_n 0, 1) := by decide +kernel
theorem dX11_mark_85 : decode cX11_mark 85 = .ok (.iload_n 1, 1) := by decide +kernel
theorem dX11_mark_86 : decode cX11_mark 86 = .ok (.iconst 0, 1) := by decide +kernel
theorem dX11_mark_87 : decode cX11_mark 87 = .ok (.iconst (-1), 1) := by decide +kernel
theorem dX11_mark_88 : decode cX11_mark 88 = .ok (.invokevirtual 148, 3) := by decide +kernel
theorem dX11_mark_91 : decode cX11_mark 91 = .ok (.ireturn, 1) := by decide +kernel
theorem dX11_mark_92 : decode cX11_mark 92 = .ok (.aload_n 0, 1) := by decide +kernel
theorem dX11_mark_93 : decode cX11_mark 93 = .ok (.iload_n 1, 1) := by decide +kernel
theorem dX11_mark_94 : decode cX11_mark 94 = .ok (.iconst 0, 1) := by decide +kernel
theorem dX11_mark_95 : decode cX11_mark 95 = .ok (.iconst 1, 1) := by decide +kernel
theorem dX11_mark_96 : decode cX11_mark 96 = .ok (.invokevirtual 148, 3) := by decide +kernel
theorem dX11_mark_99 : decode cX11_mark 99 = .ok (.ireturn, 1) := by decide +kernel
theorem dX11_mark_100 : decode cX11_mark 100 = .ok (.iload_n 3, 1) := by decide +kernel
theorem dX11_mark_101 : decode cX11_mark 101 = .ok (.ifCond .ne 9, 3) := by decide +kernel
theorem dX11_mark_104 : decode cX11_mark 104 = .ok (.sipush 500, 3) := by decide +kernel
theorem dX11_mark_107 : decode cX11_mark 107 = .ok (.goto 21, 3) := by decide +kernel
theorem dX11_mark_110 : decode cX11_mark 110 = .ok (.sipush 500, 3) := by decide +kernel
theorem dX11_mark_113 : decode cX11_mark 113 = .ok (.aload_n 0, 1) := by decide +kernel
theorem dX11_mark_114 : decode cX11_mark 114 = .ok (.iload_n 1, 1) := by decide +kernel
theorem dX11_mark_115 : decode cX11_mark 115 = .ok (.iload_n 3, 1) := by decide +kernel
theorem dX11_mark_116 : decode cX11_mark 116 = .ok (.invokevirtual 142, 3) := by decide +kernel
theorem dX11_mark_119 : decode cX11_mark 119 = .ok (.iadd, 1) := by decide +kernel
theorem dX11_mark_120 : decode cX11_mark 120 = .ok (.aload_n 0, 1) := by decide +kernel
theorem dX11_mark_121 : decode cX11_mark 121 = .ok (.iload_n 1, 1) := by decide +kernel
theorem dX11_mark_122 : decode cX11_mark 122 = .ok (.invokevirtual 123, 3) := by decide +kernel
theorem dX11_mark_125 : decode cX11_mark 125 = .ok (.iload_n 3, 1) := by decide +kernel
theorem dX11_mark_126 : decode cX11_mark 126 = .ok (.imul, 1) := by decide +kernel
theorem dX11_mark_127 : decode cX11_mark 127 = .ok (.isub, 1) := by decide +kernel
theorem dX11_mark_128 : decode cX11_mark 128 = .ok (.ireturn, 1) := by decide +kernel
theorem dX11_mark_129 : decode cX11_mark 129 = .ok (.aload_n 0, 1) := by decide +kernel
theorem dX11_mark_130 : decode cX11_mark 130 = .ok (.iload_n 1, 1) := by decide +kernel
theorem dX11_mark_131 : decode cX11_mark 131 = .ok (.iconst 1, 1) := by decide +kernel
theorem dX11_mark_132 : decode cX11_mark 132 = .ok (.iconst (-1), 1) := by decide +kernel
theorem dX11_mark_133 : decode cX11_mark 133 = .ok (.invokevirtual 148, 3) := by decide +kernel
theorem dX11_mark_136 : decode cX11_mark 136 = .ok (.ireturn, 1) := by decide +kernel
theorem dX11_mark_137 : decode cX11_mark 137 = .ok (.aload_n 0, 1) := by decide +kernel
theorem dX11_mark_138 : decode cX11_mark 138 = .ok (.iload_n 1, 1) := by decide +kernel
theorem dX11_mark_139 : decode cX11_mark 139 = .ok (.iconst 2, 1) := by decide +kernel
theorem dX11_mark_140 : decode cX11_mark 140 = .ok (.iconst 0, 1) := by decide +kernel
theorem dX11_mark_141 : decode cX11_mark 141 = .ok (.invokevirtual 148, 3) := by decide +kernel
theorem dX11_mark_144 : decode cX11_mark 144 = .ok (.ireturn, 1) := by decide +kernel
theorem dX11_shows_0 : decode cX11_shows 0 = .ok (.aload_n 0, 1) := by decide +kernel
theorem dX11_shows_1 : decode cX11_shows 1 = .ok (.iload_n 1, 1) := by decide +kernel
theorem dX11_shows_2 : decode cX11_shows 2 = .ok (.invokevirtual 133, 3) := by decide +kernel
theorem dX11_shows_5 : decode cX11_shows 5 = .ok (.ifCond .eq 19, 3) := by decide +kernel
theorem dX11_shows_8 : decode cX11_shows 8 = .ok (.iload_n 2, 1) := by decide +kernel
theorem dX11_shows_9 : decode cX11_shows 9 = .ok (.invokestatic 151, 3) := by decide +kernel
theorem dX11_shows_12 : decode cX11_shows 12 = .ok (.ifCond .eq 12, 3) := by decide +kernel
theorem dX11_shows_15 : decode cX11_shows 15 = .ok (.aload_n 0, 1) := by decide +kernel
theorem dX11_shows_16 : decode cX11_shows 16 = .ok (.iload_n 1, 1) := by decide +kernel
theorem dX11_shows_17 : decode cX11_shows 17 = .ok (.iload_n 2, 1) := by decide +kernel
theorem dX11_shows_18 : decode cX11_shows 18 = .ok (.invokevirtual 142, 3) := by decide +kernel
theorem dX11_shows_21 : decode cX11_shows 21 = .ok (.goto 4, 3) := by decide +kernel
theorem dX11_shows_24 : decode cX11_shows 24 = .ok (.iconst (-1), 1) := by decide +kernel
theorem dX11_shows_25 : decode cX11_shows 25 = .ok (.ireturn, 1) := by decide +kernel
theorem dX11_minds_0 : decode cX11_minds 0 = .ok (.bipush 32, 2) := by decide +kernel
theorem dX11_minds_2 : decode cX11_minds 2 = .ok (.bipush 9, 2) := by decide +kernel
theorem dX11_minds_4 : decode cX11_minds 4 = .ok (.aload_n 0, 1) := by decide +kernel
theorem dX11_minds_5 : decode cX11_minds 5 = .ok (.getfield 7, 3) := by decide +kernel
theorem dX11_minds_8 : decode cX11_minds 8 = .ok (.bipush 31, 2) := by decide +kernel
theorem dX11_minds_10 : decode cX11_minds 10 = .ok (.iaload, 1) := by decide +kernel
theorem dX11_minds_11 : decode cX11_minds 11 = .ok (.imul, 1) := by decide +kernel
theorem dX11_minds_12 : decode cX11_minds 12 = .ok (.iadd, 1) := by decide +kernel
theorem dX11_minds_13 : decode cX11_minds 13 = .ok (.istore_n 1, 1) := by decide +kernel
theorem dX11_minds_14 : decode cX11_minds 14 = .ok (.aload_n 0, 1) := by decide +kernel
theorem dX11_minds_15 : decode cX11_minds 15 = .ok (.getfield 7, 3) := by decide +kernel
theorem dX11_minds_18 : decode cX11_minds 18 = .ok (.iload_n 1, 1) := by decide +kernel
theorem dX11_minds_19 : decode cX11_minds 19 = .ok (.aload_n 0, 1) := by decide +kernel
theorem dX11_minds_20 : decode cX11_minds 20 = .ok (.getfield 7, 3) := by decide +kernel
theorem dX11_minds_23 : decode cX11_minds 23 = .ok (.iconst 1, 1) := by decide +kernel
theorem dX11_minds_24 : decode cX11_minds 24 = .ok (.iaload, 1) := by decide +kernel
theorem dX11_minds_25 : decode cX11_minds 25 = .ok (.iastore, 1) := by decide +kernel
theorem dX11_minds_26 : decode cX11_minds 26 = .ok (.aload_n 0, 1) := by decide +kernel
theorem dX11_minds_27 : decode cX11_minds 27 = .ok (.getfield 7, 3) := by decide +kernel
theorem dX11_minds_30 : decode cX11_minds 30 = .ok (.iload_n 1, 1) := by decide +kernel
theorem dX11_minds_31 : decode cX11_minds 31 = .ok (.iconst 1, 1) := by decide +kernel
theorem dX11_minds_32 : decode cX11_minds 32 = .ok (.iadd, 1) := by decide +kernel
theorem dX11_minds_33 : decode cX11_minds 33 = .ok (.aload_n 0, 1) := by decide +kernel
theorem dX11_minds_34 : decode cX11_minds 34 = .ok (.getfield 7, 3) := by decide +kernel
theorem dX11_minds_37 : decode cX11_minds 37 = .ok (.iconst 2, 1) := by decide +kernel
theorem dX11_minds_38 : decode cX11_minds 38 = .ok (.iaload, 1) := by decide +kernel
theorem dX11_minds_39 : decode cX11_minds 39 = .ok (.iastore, 1) := by decide +kernel
theorem dX11_minds_40 : decode cX11_minds 40 = .ok (.iconst 0, 1) := by decide +kernel
theorem dX11_minds_41 : decode cX11_minds 41 = .ok (.istore_n 2, 1) := by decide +kernel
theorem dX11_minds_42 : decode cX11_minds 42 = .ok (.iload_n 2, 1) := by decide +kernel
theorem dX11_minds_43 : decode cX11_minds 43 = .ok (.bipush 7, 2) := by decide +kernel
theorem dX11_minds_45 : decode cX11_minds 45 = .ok (.if_icmp .ge 27, 3) := by decide +kernel
theorem dX11_minds_48 : decode cX11_minds 48 = .ok (.aload_n 0, 1) := by decide +kernel
theorem dX11_minds_49 : decode cX11_minds 49 = .ok (.getfield 7, 3) := by decide +kernel
theorem dX11_minds_52 : decode cX11_minds 52 = .ok (.iload_n 1, 1) := by decide +kernel
theorem dX11_minds_53 : decode cX11_minds 53 = .ok (.iconst 2, 1) := by decide +kernel
theorem dX11_minds_54 : decode cX11_minds 54 = .ok (.iadd, 1) := by decide +kernel
theorem dX11_minds_55 : decode cX11_minds 55 = .ok (.iload_n 2, 1) := by decide +kernel
theorem dX11_minds_56 : decode cX11_minds 56 = .ok (.iadd, 1) := by decide +kernel
theorem dX11_minds_57 : decode cX11_minds 57 = .ok (.aload_n 0, 1) := by decide +kernel
theorem dX11_minds_58 : decode cX11_minds 58 = .ok (.getfield 7, 3) := by decide +kernel
theorem dX11_minds_61 : decode cX11_minds 61 = .ok (.iconst 3, 1) := by decide +kernel
theorem dX11_minds_62 : decode cX11_minds 62 = .ok (.iload_n 2, 1) := by decide +kernel
theorem dX11_minds_63 : decode cX11_minds 63 = .ok (.iadd, 1) := by decide +kernel
theorem dX11_minds_64 : decode cX11_minds 64 = .ok (.iaload, 1) := by decide +kernel
theorem dX11_minds_65 : decode cX11_minds 65 = .ok (.iastore, 1) := by decide +kernel
theorem dX11_minds_66 : decode cX11_minds 66 = .ok (.iinc 2 1, 3) := by decide +kernel
theorem dX11_minds_69 : decode cX11_minds 69 = .ok (.goto (-27), 3) := by decide +kernel
theorem dX11_minds_72 : decode cX11_minds 72 = .ok (.aload_n 0, 1) := by decide +kernel
theorem dX11_minds_73 : decode cX11_minds 73 = .ok (.getfield 7, 3) := by decide +kernel
theorem dX11_minds_76 : decode cX11_minds 76 = .ok (.bipush 31, 2) := by decide +kernel
theorem dX11_minds_78 : decode cX11_minds 78 = .ok (.dup2, 1) := by decide +kernel
theorem dX11_minds_79 : decode cX11_minds 79 = .ok (.iaload, 1) := by decide +kernel
theorem dX11_minds_80 : decode cX11_minds 80 = .ok (.iconst 1, 1) := by decide +kernel
theorem dX11_minds_81 : decode cX11_minds 81 = .ok (.iadd, 1) := by decide +kernel
theorem dX11_minds_82 : decode cX11_minds 82 = .ok (.iastore, 1) := by decide +kernel
theorem dX11_minds_83 : decode cX11_minds 83 = .ok (.return_, 1) := by decide +kernel
theorem dX11_lays_0 : decode cX11_lays 0 = .ok (.aload_n 0, 1) := by decide +kernel
theorem dX11_lays_1 : decode cX11_lays 1 = .ok (.getfield 7, 3) := by decide +kernel
theorem dX11_lays_4 : decode cX11_lays 4 = .ok (.iconst 3, 1) := by decide +kernel
theorem dX11_lays_5 : decode cX11_lays 5 = .ok (.aload_n 0, 1) := by decide +kernel
theorem dX11_lays_6 : decode cX11_lays 6 = .ok (.getfield 7, 3) := by decide +kernel
theorem dX11_lays_9 : decode cX11_lays 9 = .ok (.iconst 1, 1) := by decide +kernel
theorem dX11_lays_10 : decode cX11_lays 10 = .ok (.iaload, 1) := by decide +kernel
theorem dX11_lays_11 : decode cX11_lays 11 = .ok (.iadd, 1) := by decide +kernel
theorem dX11_lays_12 : decode cX11_lays 12 = .ok (.iload_n 1, 1) := by decide +kernel
theorem dX11_lays_13 : decode cX11_lays 13 = .ok (.iastore, 1) := by decide +kernel
theorem dX11_lays_14 : decode cX11_lays 14 = .ok (.aload_n 0, 1) := by decide +kernel
theorem dX11_lays_15 : decode cX11_lays 15 = .ok (.getfield 7, 3) := by decide +kernel
theorem dX11_lays_18 : decode cX11_lays 18 = .ok (.iconst 1, 1) := by decide +kernel
theorem dX11_lays_19 : decode cX11_lays 19 = .ok (.dup2, 1) := by decide +kernel
theorem dX11_lays_20 : decode cX11_lays 20 = .ok (.iaload, 1) := by decide +kernel
theorem dX11_lays_21 : decode cX11_lays 21 = .ok (.iconst 1, 1) := by decide +kernel
theorem dX11_lays_22 : decode cX11_lays 22 = .ok (.iadd, 1) := by decide +kernel
theorem dX11_lays_23 : decode cX11_lays 23 = .ok (.iastore, 1) := by decide +kernel
theorem dX11_lays_24 : decode cX11_lays 24 = .ok (.return_, 1) := by decide +kernel
theorem dX11_laid_0 : decode cX11_laid 0 = .ok (.aload_n 0, 1) := by decide +kernel
theorem dX11_laid_1 : decode cX11_laid 1 = .ok (.iload_n 1, 1) := by decide +kernel
theorem dX11_laid_2 : decode cX11_laid 2 = .ok (.invokevirtual 133, 3) := by decide +kernel
theorem dX11_laid_5 : decode cX11_laid 5 = .ok (.ifCond .ne 5, 3) := by decide +kernel
theorem dX11_laid_8 : decode cX11_laid 8 = .ok (.iconst (-1), 1) := by decide +kernel
theorem dX11_laid_9 : decode cX11_laid 9 = .ok (.ireturn, 1) := by decide +kernel
theorem dX11_laid_10 : decode cX11_laid 10 = .ok (.aload_n 0, 1) := by decide +kernel
theorem dX11_laid_11 : decode cX11_laid 11 = .ok (.iload_n 1, 1) := by decide +kernel
theorem dX11_laid_12 : decode cX11_laid 12 = .ok (.invokevirtual 130, 3) := by decide +kernel
theorem dX11_laid_15 : decode cX11_laid 15 = .ok (.ifCond .lt 6, 3) := by decide +kernel
theorem dX11_laid_18 : decode cX11_laid 18 = .ok (.bipush (-4), 2) := by decide +kernel
theorem dX11_laid_20 : decode cX11_laid 20 = .ok (.ireturn, 1) := by decide +kernel
theorem dX11_laid_21 : decode cX11_laid 21 = .ok (.aload_n 0, 1) := by decide +kernel
theorem dX11_laid_22 : decode cX11_laid 22 = .ok (.getfield 7, 3) := by decide +kernel
theorem dX11_laid_25 : decode cX11_laid 25 = .ok (.bipush 31, 2) := by decide +kernel
theorem dX11_laid_27 : decode cX11_laid 27 = .ok (.iaload, 1) := by decide +kernel
theorem dX11_laid_28 : decode cX11_laid 28 = .ok (.bipush 40, 2) := by decide +kernel
theorem dX11_laid_30 : decode cX11_laid 30 = .ok (.if_icmp .ne 6, 3) := by decide +kernel
theorem dX11_laid_33 : decode cX11_laid 33 = .ok (.bipush (-2), 2) := by decide +kernel
theorem dX11_laid_35 : decode cX11_laid 35 = .ok (.ireturn, 1) := by decide +kernel
theorem dX11_laid_36 : decode cX11_laid 36 = .ok (.aload_n 0, 1) := by decide +kernel
theorem dX11_laid_37 : decode cX11_laid 37 = .ok (.invokevirtual 154, 3) := by decide +kernel
theorem dX11_laid_40 : decode cX11_laid 40 = .ok (.aload_n 0, 1) := by decide +kernel
theorem dX11_laid_41 : decode cX11_laid 41 = .ok (.iload_n 1, 1) := by decide +kernel
theorem dX11_laid_42 : decode cX11_laid 42 = .ok (.invokevirtual 157, 3) := by decide +kernel
theorem dX11_laid_45 : decode cX11_laid 45 = .ok (.aload_n 0, 1) := by decide +kernel
theorem dX11_laid_46 : decode cX11_laid 46 = .ok (.getfield 7, 3) := by decide +kernel
theorem dX11_laid_49 : decode cX11_laid 49 = .ok (.iconst 1, 1) := by decide +kernel
theorem dX11_laid_50 : decode cX11_laid 50 = .ok (.iaload, 1) := by decide +kernel
theorem dX11_laid_51 : decode cX11_laid 51 = .ok (.ireturn, 1) := by decide +kernel
theorem dX11_lifts_0 : decode cX11_lifts 0 = .ok (.aload_n 0, 1) := by decide +kernel
theorem dX11_lifts_1 : decode cX11_lifts 1 = .ok (.getfield 7, 3) := by decide +kernel
theorem dX11_lifts_4 : decode cX11_lifts 4 = .ok (.iconst 1, 1) := by decide +kernel
theorem dX11_lifts_5 : decode cX11_lifts 5 = .ok (.dup2, 1) := by decide +kernel
theorem dX11_lifts_6 : decode cX11_lifts 6 = .ok (.iaload, 1) := by decide +kernel
theorem dX11_lifts_7 : decode cX11_lifts 7 = .ok (.iconst 1, 1) := by decide +kernel
theorem dX11_lifts_8 : decode cX11_lifts 8 = .ok (.isub, 1) := by decide +kernel
theorem dX11_lifts_9 : decode cX11_lifts 9 = .ok (.iastore, 1) := by decide +kernel
theorem dX11_lifts_10 : decode cX11_lifts 10 = .ok (.aload_n 0, 1) := by decide +kernel
theorem dX11_lifts_11 : decode cX11_lifts 11 = .ok (.getfield 7, 3) := by decide +kernel
theorem dX11_lifts_14 : decode cX11_lifts 14 = .ok (.iconst 3, 1) := by decide +kernel
theorem dX11_lifts_15 : decode cX11_lifts 15 = .ok (.aload_n 0, 1) := by decide +kernel
theorem dX11_lifts_16 : decode cX11_lifts 16 = .ok (.getfield 7, 3) := by decide +kernel
theorem dX11_lifts_19 : decode cX11_lifts 19 = .ok (.iconst 1, 1) := by decide +kernel
theorem dX11_lifts_20 : decode cX11_lifts 20 = .ok (.iaload, 1) := by decide +kernel
theorem dX11_lifts_21 : decode cX11_lifts 21 = .ok (.iadd, 1) := by decide +kernel
theorem dX11_lifts_22 : decode cX11_lifts 22 = .ok (.iaload, 1) := by decide +kernel
theorem dX11_lifts_23 : decode cX11_lifts 23 = .ok (.istore_n 1, 1) := by decide +kernel
theorem dX11_lifts_24 : decode cX11_lifts 24 = .ok (.aload_n 0, 1) := by decide +kernel
theorem dX11_lifts_25 : decode cX11_lifts 25 = .ok (.getfield 7, 3) := by decide +kernel
theorem dX11_lifts_28 : decode cX11_lifts 28 = .ok (.iconst 3, 1) := by decide +kernel
theorem dX11_lifts_29 : decode cX11_lifts 29 = .ok (.aload_n 0, 1) := by decide +kernel
theorem dX11_lifts_30 : decode cX11_lifts 30 = .ok (.getfield 7, 3) := by decide +kernel
theorem dX11_lifts_33 : decode cX11_lifts 33 = .ok (.iconst 1, 1) := by decide +kernel
theorem dX11_lifts_34 : decode cX11_lifts 34 = .ok (.iaload, 1) := by decide +kernel
theorem dX11_lifts_35 : decode cX11_lifts 35 = .ok (.iadd, 1) := by decide +kernel
theorem dX11_lifts_36 : decode cX11_lifts 36 = .ok (.iconst 0, 1) := by decide +kernel
theorem dX11_lifts_37 : decode cX11_lifts 37 = .ok (.iastore, 1) := by decide +kernel
theorem dX11_lifts_38 : decode cX11_lifts 38 = .ok (.iload_n 1, 1) := by decide +kernel
theorem dX11_lifts_39 : decode cX11_lifts 39 = .ok (.ireturn, 1) := by decide +kernel
theorem dX11_lift_0 : decode cX11_lift 0 = .ok (.aload_n 0, 1) := by decide +kernel
theorem dX11_lift_1 : decode cX11_lift 1 = .ok (.getfield 7, 3) := by decide +kernel
theorem dX11_lift_4 : decode cX11_lift 4 = .ok (.iconst 1, 1) := by decide +kernel
theorem dX11_lift_5 : decode cX11_lift 5 = .ok (.iaload, 1) := by decide +kernel
theorem dX11_lift_6 : decode cX11_lift 6 = .ok (.ifCond .ne 6, 3) := by decide +kernel
theorem dX11_lift_9 : decode cX11_lift 9 = .ok (.bipush (-4), 2) := by decide +kernel
theorem dX11_lift_11 : decode cX11_lift 11 = .ok (.ireturn, 1) := by decide +kernel
theorem dX11_lift_12 : decode cX11_lift 12 = .ok (.aload_n 0, 1) := by decide +kernel
theorem dX11_lift_13 : decode cX11_lift 13 = .ok (.getfield 7, 3) := by decide +kernel
theorem dX11_lift_16 : decode cX11_lift 16 = .ok (.bipush 31, 2) := by decide +kernel
theorem dX11_lift_18 : decode cX11_lift 18 = .ok (.iaload, 1) := by decide +kernel
theorem dX11_lift_19 : decode cX11_lift 19 = .ok (.bipush 40, 2) := by decide +kernel
theorem dX11_lift_21 : decode cX11_lift 21 = .ok (.if_icmp .ne 6, 3) := by decide +kernel
theorem dX11_lift_24 : decode cX11_lift 24 = .ok (.bipush (-2), 2) := by decide +kernel
theorem dX11_lift_26 : decode cX11_lift 26 = .ok (.ireturn, 1) := by decide +kernel
theorem dX11_lift_27 : decode cX11_lift 27 = .ok (.aload_n 0, 1) := by decide +kernel
theorem dX11_lift_28 : decode cX11_lift 28 = .ok (.invokevirtual 154, 3) := by decide +kernel
theorem dX11_lift_31 : decode cX11_lift 31 = .ok (.aload_n 0, 1) := by decide +kernel
theorem dX11_lift_32 : decode cX11_lift 32 = .ok (.invokevirtual 161, 3) := by decide +kernel
theorem dX11_lift_35 : decode cX11_lift 35 = .ok (.ireturn, 1) := by decide +kernel
theorem dX11_change_0 : decode cX11_change 0 = .ok (.iload_n 1, 1) := by decide +kernel
theorem dX11_change_1 : decode cX11_change 1 = .ok (.i2l, 1) := by decide +kernel
theorem dX11_change_2 : decode cX11_change 2 = .ok (.lconst 0, 1) := by decide +kernel
theorem dX11_change_3 : decode cX11_change 3 = .ok (.aload_n 0, 1) := by decide +kernel
theorem dX11_change_4 : decode cX11_change 4 = .ok (.getfield 7, 3) := by decide +kernel
theorem dX11_change_7 : decode cX11_change 7 = .ok (.iconst 1, 1) := by decide +kernel
theorem dX11_change_8 : decode cX11_change 8 = .ok (.iaload, 1) := by decide +kernel
theorem dX11_change_9 : decode cX11_change 9 = .ok (.iconst 1, 1) := by decide +kernel
theorem dX11_change_10 : decode cX11_change 10 = .ok (.isub, 1) := by decide +kernel
theorem dX11_change_11 : decode cX11_change 11 = .ok (.i2l, 1) := by decide +kernel
theorem dX11_change_12 : decode cX11_change 12 = .ok (.invokestatic 68, 3) := by decide +kernel
theorem dX11_change_15 : decode cX11_change 15 = .ok (.ifCond .eq 26, 3) := by decide +kernel
theorem dX11_change_18 : decode cX11_change 18 = .ok (.iload_n 2, 1) := by decide +kernel
theorem dX11_change_19 : decode cX11_change 19 = .ok (.i2l, 1) := by decide +kernel
theorem dX11_change_20 : decode cX11_change 20 = .ok (.lconst 0, 1) := by decide +kernel
theorem dX11_change_21 : decode cX11_change 21 = .ok (.aload_n 0, 1) := by decide +kernel
theorem dX11_change_22 : decode cX11_change 22 = .ok (.getfield 7, 3) := by decide +kernel
theorem dX11_change_25 : decode cX11_change 25 = .ok (.iconst 1, 1) := by decide +kernel
theorem dX11_change_26 : decode cX11_change 26 = .ok (.iaload, 1) := by decide +kernel
theorem dX11_change_27 : decode cX11_change 27 = .ok (.iconst 1, 1) := by decide +kernel
theorem dX11_change_28 : decode cX11_change 28 = .ok (.isub, 1) := by decide +kernel
theorem dX11_change_29 : decode cX11_change 29 = .ok (.i2l, 1) := by decide +kernel
theorem dX11_change_30 : decode cX11_change 30 = .ok (.invokestatic 68, 3) := by decide +kernel
theorem dX11_change_33 : decode cX11_change 33 = .ok (.ifCond .eq 8, 3) := by decide +kernel
theorem dX11_change_36 : decode cX11_change 36 = .ok (.iload_n 1, 1) := by decide +kernel
theorem dX11_change_37 : decode cX11_change 37 = .ok (.iload_n 2, 1) := by decide +kernel
theorem dX11_change_38 : decode cX11_change 38 = .ok (.if_icmp .ne 5, 3) := by decide +kernel
theorem dX11_change_41 : decode cX11_change 41 = .ok (.iconst (-1), 1) := by decide +kernel
theorem dX11_change_42 : decode cX11_change 42 = .ok (.ireturn, 1) := by decide +kernel
theorem dX11_change_43 : decode cX11_change 43 = .ok (.aload_n 0, 1) := by decide +kernel
theorem dX11_change_44 : decode cX11_change 44 = .ok (.getfield 7, 3) := by decide +kernel
theorem dX11_change_47 : decode cX11_change 47 = .ok (.bipush 31, 2) := by decide +kernel
theorem dX11_change_49 : decode cX11_change 49 = .ok (.iaload, 1) := by decide +kernel
theorem dX11_change_50 : decode cX11_change 50 = .ok (.bipush 40, 2) := by decide +kernel
theorem dX11_change_52 : decode cX11_change 52 = .ok (.if_icmp .ne 6, 3) := by decide +kernel
theorem dX11_change_55 : decode cX11_change 55 = .ok (.bipush (-2), 2) := by decide +kernel
theorem dX11_change_57 : decode cX11_change 57 = .ok (.ireturn, 1) := by decide +kernel
theorem dX11_change_58 : decode cX11_change 58 = .ok (.aload_n 0, 1) := by decide +kernel
theorem dX11_change_59 : decode cX11_change 59 = .ok (.invokevirtual 154, 3) := by decide +kernel
theorem dX11_change_62 : decode cX11_change 62 = .ok (.aload_n 0, 1) := by decide +kernel
theorem dX11_change_63 : decode cX11_change 63 = .ok (.getfield 7, 3) := by decide +kernel
theorem dX11_change_66 : decode cX11_change 66 = .ok (.iconst 3, 1) := by decide +kernel
theorem dX11_change_67 : decode cX11_change 67 = .ok (.iload_n 1, 1) := by decide +kernel
theorem dX11_change_68 : decode cX11_change 68 = .ok (.iadd, 1) := by decide +kernel
theorem dX11_change_69 : decode cX11_change 69 = .ok (.iaload, 1) := by decide +kernel
theorem dX11_change_70 : decode cX11_change 70 = .ok (.istore_n 3, 1) := by decide +kernel
theorem dX11_change_71 : decode cX11_change 71 = .ok (.aload_n 0, 1) := by decide +kernel
theorem dX11_change_72 : decode cX11_change 72 = .ok (.getfield 7, 3) := by decide +kernel
theorem dX11_change_75 : decode cX11_change 75 = .ok (.iconst 3, 1) := by decide +kernel
theorem dX11_change_76 : decode cX11_change 76 = .ok (.iload_n 1, 1) := by decide +kernel
theorem dX11_change_77 : decode cX11_change 77 = .ok (.iadd, 1) := by decide +kernel
theorem dX11_change_78 : decode cX11_change 78 = .ok (.aload_n 0, 1) := by decide +kernel
theorem dX11_change_79 : decode cX11_change 79 = .ok (.getfield 7, 3) := by decide +kernel
theorem dX11_change_82 : decode cX11_change 82 = .ok (.iconst 3, 1) := by decide +kernel
theorem dX11_change_83 : decode cX11_change 83 = .ok (.iload_n 2, 1) := by decide +kernel
theorem dX11_change_84 : decode cX11_change 84 = .ok (.iadd, 1) := by decide +kernel
theorem dX11_change_85 : decode cX11_change 85 = .ok (.iaload, 1) := by decide +kernel
theorem dX11_change_86 : decode cX11_change 86 = .ok (.iastore, 1) := by decide +kernel
theorem dX11_change_87 : decode cX11_change 87 = .ok (.aload_n 0, 1) := by decide +kernel
theorem dX11_change_88 : decode cX11_change 88 = .ok (.getfield 7, 3) := by decide +kernel
theorem dX11_change_91 : decode cX11_change 91 = .ok (.iconst 3, 1) := by decide +kernel
theorem dX11_change_92 : decode cX11_change 92 = .ok (.iload_n 2, 1) := by decide +kernel
theorem dX11_change_93 : decode cX11_change 93 = .ok (.iadd, 1) := by decide +kernel
theorem dX11_change_94 : decode cX11_change 94 = .ok (.iload_n 3, 1) := by decide +kernel
theorem dX11_change_95 : decode cX11_change 95 = .ok (.iastore, 1) := by decide +kernel
theorem dX11_change_96 : decode cX11_change 96 = .ok (.aload_n 0, 1) := by decide +kernel
theorem dX11_change_97 : decode cX11_change 97 = .ok (.getfield 7, 3) := by decide +kernel
theorem dX11_change_100 : decode cX11_change 100 = .ok (.iconst 3, 1) := by decide +kernel
theorem dX11_change_101 : decode cX11_change 101 = .ok (.iload_n 1, 1) := by decide +kernel
theorem dX11_change_102 : decode cX11_change 102 = .ok (.iadd, 1) := by decide +kernel
theorem dX11_change_103 : decode cX11_change 103 = .ok (.iaload, 1) := by decide +kernel
theorem dX11_change_104 : decode cX11_change 104 = .ok (.ireturn, 1) := by decide +kernel
theorem dX11_over_0 : decode cX11_over 0 = .ok (.aload_n 0, 1) := by decide +kernel
theorem dX11_over_1 : decode cX11_over 1 = .ok (.iload_n 1, 1) := by decide +kernel
theorem dX11_over_2 : decode cX11_over 2 = .ok (.invokevirtual 133, 3) := by decide +kernel
theorem dX11_over_5 : decode cX11_over 5 = .ok (.ifCond .ne 5, 3) := by decide +kernel
theorem dX11_over_8 : decode cX11_over 8 = .ok (.iconst (-1), 1) := by decide +kernel
theorem dX11_over_9 : decode cX11_over 9 = .ok (.ireturn, 1) := by decide +kernel
theorem dX11_over_10 : decode cX11_over 10 = .ok (.aload_n 0, 1) := by decide +kernel
theorem dX11_over_11 : decode cX11_over 11 = .ok (.getfield 7, 3) := by decide +kernel
theorem dX11_over_14 : decode cX11_over 14 = .ok (.bipush 31, 2) := by decide +kernel
theorem dX11_over_16 : decode cX11_over 16 = .ok (.iaload, 1) := by decide +kernel
theorem dX11_over_17 : decode cX11_over 17 = .ok (.bipush 40, 2) := by decide +kernel
theorem dX11_over_19 : decode cX11_over 19 = .ok (.if_icmp .ne 6, 3) := by decide +kernel
theorem dX11_over_22 : decode cX11_over 22 = .ok (.bipush (-2), 2) := by decide +kernel
theorem dX11_over_24 : decode cX11_over 24 = .ok (.ireturn, 1) := by decide +kernel
theorem dX11_over_25 : decode cX11_over 25 = .ok (.aload_n 0, 1) := by decide +kernel
theorem dX11_over_26 : decode cX11_over 26 = .ok (.invokevirtual 154, 3) := by decide +kernel
theorem dX11_over_29 : decode cX11_over 29 = .ok (.aload_n 0, 1) := by decide +kernel
theorem dX11_over_30 : decode cX11_over 30 = .ok (.getfield 7, 3) := by decide +kernel
theorem dX11_over_33 : decode cX11_over 33 = .ok (.iconst 2, 1) := by decide +kernel
theorem dX11_over_34 : decode cX11_over 34 = .ok (.dup2, 1) := by decide +kernel
theorem dX11_over_35 : decode cX11_over 35 = .ok (.iaload, 1) := by decide +kernel
theorem dX11_over_36 : decode cX11_over 36 = .ok (.iconst 1, 1) := by decide +kernel
theorem dX11_over_37 : decode cX11_over 37 = .ok (.iload_n 1, 1) := by decide +kernel
theorem dX11_over_38 : decode cX11_over 38 = .ok (.ishl, 1) := by decide +kernel
theorem dX11_over_39 : decode cX11_over 39 = .ok (.ixor, 1) := by decide +kernel
theorem dX11_over_40 : decode cX11_over 40 = .ok (.iastore, 1) := by decide +kernel
theorem dX11_over_41 : decode cX11_over 41 = .ok (.aload_n 0, 1) := by decide +kernel
theorem dX11_over_42 : decode cX11_over 42 = .ok (.iload_n 1, 1) := by decide +kernel
theorem dX11_over_43 : decode cX11_over 43 = .ok (.invokevirtual 123, 3) := by decide +kernel
theorem dX11_over_46 : decode cX11_over 46 = .ok (.ireturn, 1) := by decide +kernel
theorem dX11_undo_0 : decode cX11_undo 0 = .ok (.iload_n 1, 1) := by decide +kernel
theorem dX11_undo_1 : decode cX11_undo 1 = .ok (.i2l, 1) := by decide +kernel
theorem dX11_undo_2 : decode cX11_undo 2 = .ok (.lconst 0, 1) := by decide +kernel
theorem dX11_undo_3 : decode cX11_undo 3 = .ok (.aload_n 0, 1) := by decide +kernel
theorem dX11_undo_4 : decode cX11_undo 4 = .ok (.getfield 7, 3) := by decide +kernel
theorem dX11_undo_7 : decode cX11_undo 7 = .ok (.bipush 31, 2) := by decide +kernel
theorem dX11_undo_9 : decode cX11_undo 9 = .ok (.iaload, 1) := by decide +kernel
theorem dX11_undo_10 : decode cX11_undo 10 = .ok (.i2l, 1) := by decide +kernel
theorem dX11_undo_11 : decode cX11_undo 11 = .ok (.invokestatic 68, 3) := by decide +kernel
theorem dX11_undo_14 : decode cX11_undo 14 = .ok (.ifCond .ne 5, 3) := by decide +kernel
theorem dX11_undo_17 : decode cX11_undo 17 = .ok (.iconst (-1), 1) := by decide +kernel
theorem dX11_undo_18 : decode cX11_undo 18 = .ok (.ireturn, 1) := by decide +kernel
theorem dX11_undo_19 : decode cX11_undo 19 = .ok (.aload_n 0, 1) := by decide +kernel
theorem dX11_undo_20 : decode cX11_undo 20 = .ok (.getfield 7, 3) := by decide +kernel
theorem dX11_undo_23 : decode cX11_undo 23 = .ok (.bipush 31, 2) := by decide +kernel
theorem dX11_undo_25 : decode cX11_undo 25 = .ok (.iaload, 1) := by decide +kernel
theorem dX11_undo_26 : decode cX11_undo 26 = .ok (.iload_n 1, 1) := by decide +kernel
theorem dX11_undo_27 : decode cX11_undo 27 = .ok (.isub, 1) := by decide +kernel
theorem dX11_undo_28 : decode cX11_undo 28 = .ok (.istore_n 2, 1) := by decide +kernel
theorem dX11_undo_29 : decode cX11_undo 29 = .ok (.iload_n 2, 1) := by decide +kernel
theorem dX11_undo_30 : decode cX11_undo 30 = .ok (.ifCond .le 81, 3) := by decide +kernel
theorem dX11_undo_33 : decode cX11_undo 33 = .ok (.bipush 32, 2) := by decide +kernel
theorem dX11_undo_35 : decode cX11_undo 35 = .ok (.bipush 9, 2) := by decide +kernel
theorem dX11_undo_37 : decode cX11_undo 37 = .ok (.iload_n 1, 1) := by decide +kernel
theorem dX11_undo_38 : decode cX11_undo 38 = .ok (.imul, 1) := by decide +kernel
theorem dX11_undo_39 : decode cX11_undo 39 = .ok (.iadd, 1) := by decide +kernel
theorem dX11_undo_40 : decode cX11_undo 40 = .ok (.istore_n 3, 1) := by decide +kernel
theorem dX11_undo_41 : decode cX11_undo 41 = .ok (.aload_n 0, 1) := by decide +kernel
theorem dX11_undo_42 : decode cX11_undo 42 = .ok (.getfield 7, 3) := by decide +kernel
theorem dX11_undo_45 : decode cX11_undo 45 = .ok (.iconst 1, 1) := by decide +kernel
theorem dX11_undo_46 : decode cX11_undo 46 = .ok (.aload_n 0, 1) := by decide +kernel
theorem dX11_undo_47 : decode cX11_undo 47 = .ok (.getfield 7, 3) := by decide +kernel
theorem dX11_undo_50 : decode cX11_undo 50 = .ok (.iload_n 3, 1) := by decide +kernel
theorem dX11_undo_51 : decode cX11_undo 51 = .ok (.iaload, 1) := by decide +kernel
theorem dX11_undo_52 : decode cX11_undo 52 = .ok (.iastore, 1) := by decide +kernel
theorem dX11_undo_53 : decode cX11_undo 53 = .ok (.aload_n 0, 1) := by decide +kernel
theorem dX11_undo_54 : decode cX11_undo 54 = .ok (.getfield 7, 3) := by decide +kernel
theorem dX11_undo_57 : decode cX11_undo 57 = .ok (.iconst 2, 1) := by decide +kernel
theorem dX11_undo_58 : decode cX11_undo 58 = .ok (.aload_n 0, 1) := by decide +kernel
theorem dX11_undo_59 : decode cX11_undo 59 = .ok (.getfield 7, 3) := by decide +kernel
theorem dX11_undo_62 : decode cX11_undo 62 = .ok (.iload_n 3, 1) := by decide +kernel
theorem dX11_undo_63 : decode cX11_undo 63 = .ok (.iconst 1, 1) := by decide +kernel
theorem dX11_undo_64 : decode cX11_undo 64 = .ok (.iadd, 1) := by decide +kernel
theorem dX11_undo_65 : decode cX11_undo 65 = .ok (.iaload, 1) := by decide +kernel
theorem dX11_undo_66 : decode cX11_undo 66 = .ok (.iastore, 1) := by decide +kernel
theorem dX11_undo_67 : decode cX11_undo 67 = .ok (.iconst 0, 1) := by decide +kernel
theorem dX11_undo_68 : decode cX11_undo 68 = .ok (.istore 4, 2) := by decide +kernel
theorem dX11_undo_70 : decode cX11_undo 70 = .ok (.iload 4, 2) := by decide +kernel
theorem dX11_undo_72 : decode cX11_undo 72 = .ok (.bipush 7, 2) := by decide +kernel
theorem dX11_undo_74 : decode cX11_undo 74 = .ok (.if_icmp .ge 29, 3) := by decide +kernel
theorem dX11_undo_77 : decode cX11_undo 77 = .ok (.aload_n 0, 1) := by decide +kernel
theorem dX11_undo_78 : decode cX11_undo 78 = .ok (.getfield 7, 3) := by decide +kernel
theorem dX11_undo_81 : decode cX11_undo 81 = .ok (.iconst 3, 1) := by decide +kernel
theorem dX11_undo_82 : decode cX11_undo 82 = .ok (.iload 4, 2) := by decide +kernel
theorem dX11_undo_84 : decode cX11_undo 84 = .ok (.iadd, 1) := by decide +kernel
theorem dX11_undo_85 : decode cX11_undo 85 = .ok (.aload_n 0, 1) := by decide +kernel
theorem dX11_undo_86 : decode cX11_undo 86 = .ok (.getfield 7, 3) := by decide +kernel
theorem dX11_undo_89 : decode cX11_undo 89 = .ok (.iload_n 3, 1) := by decide +kernel
theorem dX11_undo_90 : decode cX11_undo 90 = .ok (.iconst 2, 1) := by decide +kernel
theorem dX11_undo_91 : decode cX11_undo 91 = .ok (.iadd, 1) := by decide +kernel
theorem dX11_undo_92 : decode cX11_undo 92 = .ok (.iload 4, 2) := by decide +kernel
theorem dX11_undo_94 : decode cX11_undo 94 = .ok (.iadd, 1) := by decide +kernel
theorem dX11_undo_95 : decode cX11_undo 95 = .ok (.iaload, 1) := by decide +kernel
theorem dX11_undo_96 : decode cX11_undo 96 = .ok (.iastore, 1) := by decide +kernel
theorem dX11_undo_97 : decode cX11_undo 97 = .ok (.iinc 4 1, 3) := by decide +kernel
theorem dX11_undo_100 : decode cX11_undo 100 = .ok (.goto (-30), 3) := by decide +kernel
theorem dX11_undo_103 : decode cX11_undo 103 = .ok (.aload_n 0, 1) := by decide +kernel
theorem dX11_undo_104 : decode cX11_undo 104 = .ok (.getfield 7, 3) := by decide +kernel
theorem dX11_undo_107 : decode cX11_undo 107 = .ok (.bipush 31, 2) := by decide +kernel
theorem dX11_undo_109 : decode cX11_undo 109 = .ok (.iload_n 1, 1) := by decide +kernel
theorem dX11_undo_110 : decode cX11_undo 110 = .ok (.iastore, 1) := by decide +kernel
theorem dX11_undo_111 : decode cX11_undo 111 = .ok (.iload_n 2, 1) := by decide +kernel
theorem dX11_undo_112 : decode cX11_undo 112 = .ok (.ireturn, 1) := by decide +kernel
theorem dX11_keep_0 : decode cX11_keep 0 = .ok (.iload_n 1, 1) := by decide +kernel
theorem dX11_keep_1 : decode cX11_keep 1 = .ok (.i2l, 1) := by decide +kernel
theorem dX11_keep_2 : decode cX11_keep 2 = .ok (.lconst 0, 1) := by decide +kernel
theorem dX11_keep_3 : decode cX11_keep 3 = .ok (.ldc2_w 164, 3) := by decide +kernel
theorem dX11_keep_6 : decode cX11_keep 6 = .ok (.invokestatic 68, 3) := by decide +kernel
theorem dX11_keep_9 : decode cX11_keep 9 = .ok (.ifCond .ne 5, 3) := by decide +kernel
theorem dX11_keep_12 : decode cX11_keep 12 = .ok (.iconst (-1), 1) := by decide +kernel
theorem dX11_keep_13 : decode cX11_keep 13 = .ok (.ireturn, 1) := by decide +kernel
theorem dX11_keep_14 : decode cX11_keep 14 = .ok (.aload_n 0, 1) := by decide +kernel
theorem dX11_keep_15 : decode cX11_keep 15 = .ok (.getfield 7, 3) := by decide +kernel
theorem dX11_keep_18 : decode cX11_keep 18 = .ok (.iconst 0, 1) := by decide +kernel
theorem dX11_keep_19 : decode cX11_keep 19 = .ok (.iaload, 1) := by decide +kernel
theorem dX11_keep_20 : decode cX11_keep 20 = .ok (.ifCond .ne 6, 3) := by decide +kernel
theorem dX11_keep_23 : decode cX11_keep 23 = .ok (.bipush (-4), 2) := by decide +kernel
theorem dX11_keep_25 : decode cX11_keep 25 = .ok (.ireturn, 1) := by decide +kernel
theorem dX11_keep_26 : decode cX11_keep 26 = .ok (.aload_n 0, 1) := by decide +kernel
theorem dX11_keep_27 : decode cX11_keep 27 = .ok (.iconst 0, 1) := by decide +kernel
theorem dX11_keep_28 : decode cX11_keep 28 = .ok (.sipush 392, 3) := by decide +kernel
theorem dX11_keep_31 : decode cX11_keep 31 = .ok (.sipush 392, 3) := by decide +kernel
theorem dX11_keep_34 : decode cX11_keep 34 = .ok (.iload_n 1, 1) := by decide +kernel
theorem dX11_keep_35 : decode cX11_keep 35 = .ok (.imul, 1) := by decide +kernel
theorem dX11_keep_36 : decode cX11_keep 36 = .ok (.iadd, 1) := by decide +kernel
theorem dX11_keep_37 : decode cX11_keep 37 = .ok (.invokevirtual 166, 3) := by decide +kernel
theorem dX11_keep_40 : decode cX11_keep 40 = .ok (.aload_n 0, 1) := by decide +kernel
theorem dX11_keep_41 : decode cX11_keep 41 = .ok (.getfield 7, 3) := by decide +kernel
theorem dX11_keep_44 : decode cX11_keep 44 = .ok (.bipush 31, 2) := by decide +kernel
theorem dX11_keep_46 : decode cX11_keep 46 = .ok (.iaload, 1) := by decide +kernel
theorem dX11_keep_47 : decode cX11_keep 47 = .ok (.ireturn, 1) := by decide +kernel
theorem dX11_on_0 : decode cX11_on 0 = .ok (.iload_n 1, 1) := by decide +kernel
theorem dX11_on_1 : decode cX11_on 1 = .ok (.i2l, 1) := by decide +kernel
theorem dX11_on_2 : decode cX11_on 2 = .ok (.lconst 0, 1) := by decide +kernel
theorem dX11_on_3 : decode cX11_on 3 = .ok (.ldc2_w 164, 3) := by decide +kernel
theorem dX11_on_6 : decode cX11_on 6 = .ok (.invokestatic 68, 3) := by decide +kernel
theorem dX11_on_9 : decode cX11_on 9 = .ok (.ifCond .ne 5, 3) := by decide +kernel
theorem dX11_on_12 : decode cX11_on 12 = .ok (.iconst (-1), 1) := by decide +kernel
theorem dX11_on_13 : decode cX11_on 13 = .ok (.ireturn, 1) := by decide +kernel
theorem dX11_on_14 : decode cX11_on 14 = .ok (.aload_n 0, 1) := by decide +kernel
theorem dX11_on_15 : decode cX11_on 15 = .ok (.getfield 7, 3) := by decide +kernel
theorem dX11_on_18 : decode cX11_on 18 = .ok (.sipush 392, 3) := by decide +kernel
theorem dX11_on_21 : decode cX11_on 21 = .ok (.sipush 392, 3) := by decide +kernel
theorem dX11_on_24 : decode cX11_on 24 = .ok (.iload_n 1, 1) := by decide +kernel
theorem dX11_on_25 : decode cX11_on 25 = .ok (.imul, 1) := by decide +kernel
theorem dX11_on_26 : decode cX11_on 26 = .ok (.iadd, 1) := by decide +kernel
theorem dX11_on_27 : decode cX11_on 27 = .ok (.iconst 0, 1) := by decide +kernel
theorem dX11_on_28 : decode cX11_on 28 = .ok (.iadd, 1) := by decide +kernel
theorem dX11_on_29 : decode cX11_on 29 = .ok (.iaload, 1) := by decide +kernel
theorem dX11_on_30 : decode cX11_on 30 = .ok (.ifCond .ne 9, 3) := by decide +kernel
theorem dX11_on_33 : decode cX11_on 33 = .ok (.aload_n 0, 1) := by decide +kernel
theorem dX11_on_34 : decode cX11_on 34 = .ok (.iconst 1, 1) := by decide +kernel
theorem dX11_on_35 : decode cX11_on 35 = .ok (.invokevirtual 80, 3) := by decide +kernel
theorem dX11_on_38 : decode cX11_on 38 = .ok (.ireturn, 1) := by decide +kernel
theorem dX11_on_39 : decode cX11_on 39 = .ok (.aload_n 0, 1) := by decide +kernel
theorem dX11_on_40 : decode cX11_on 40 = .ok (.sipush 392, 3) := by decide +kernel
theorem dX11_on_43 : decode cX11_on 43 = .ok (.sipush 392, 3) := by decide +kernel
theorem dX11_on_46 : decode cX11_on 46 = .ok (.iload_n 1, 1) := by decide +kernel
theorem dX11_on_47 : decode cX11_on 47 = .ok (.imul, 1) := by decide +kernel
theorem dX11_on_48 : decode cX11_on 48 = .ok (.iadd, 1) := by decide +kernel
theorem dX11_on_49 : decode cX11_on 49 = .ok (.iconst 0, 1) := by decide +kernel
theorem dX11_on_50 : decode cX11_on 50 = .ok (.invokevirtual 166, 3) := by decide +kernel
theorem dX11_on_53 : decode cX11_on 53 = .ok (.aload_n 0, 1) := by decide +kernel
theorem dX11_on_54 : decode cX11_on 54 = .ok (.getfield 7, 3) := by decide +kernel
theorem dX11_on_57 : decode cX11_on 57 = .ok (.bipush 31, 2) := by decide +kernel
theorem dX11_on_59 : decode cX11_on 59 = .ok (.iaload, 1) := by decide +kernel
theorem dX11_on_60 : decode cX11_on 60 = .ok (.ireturn, 1) := by decide +kernel
theorem dX11_readBy_0 : decode cX11_readBy 0 = .ok (.iconst 0, 1) := by decide +kernel
theorem dX11_readBy_1 : decode cX11_readBy 1 = .ok (.istore_n 2, 1) := by decide +kernel
theorem dX11_readBy_2 : decode cX11_readBy 2 = .ok (.iconst 0, 1) := by decide +kernel
theorem dX11_readBy_3 : decode cX11_readBy 3 = .ok (.istore_n 3, 1) := by decide +kernel
theorem dX11_readBy_4 : decode cX11_readBy 4 = .ok (.iload_n 3, 1) := by decide +kernel
theorem dX11_readBy_5 : decode cX11_readBy 5 = .ok (.aload_n 0, 1) := by decide +kernel
theorem dX11_readBy_6 : decode cX11_readBy 6 = .ok (.getfield 7, 3) := by decide +kernel
theorem dX11_readBy_9 : decode cX11_readBy 9 = .ok (.iconst 1, 1) := by decide +kernel
theorem dX11_readBy_10 : decode cX11_readBy 10 = .ok (.iaload, 1) := by decide +kernel
theorem dX11_readBy_11 : decode cX11_readBy 11 = .ok (.if_icmp .ge 28, 3) := by decide +kernel
theorem dX11_readBy_14 : decode cX11_readBy 14 = .ok (.bipush 10, 2) := by decide +kernel
theorem dX11_readBy_16 : decode cX11_readBy 16 = .ok (.iload_n 2, 1) := by decide +kernel
theorem dX11_readBy_17 : decode cX11_readBy 17 = .ok (.imul, 1) := by decide +kernel
theorem dX11_readBy_18 : decode cX11_readBy 18 = .ok (.aload_n 0, 1) := by decide +kernel
theorem dX11_readBy_19 : decode cX11_readBy 19 = .ok (.aload_n 0, 1) := by decide +kernel
theorem dX11_readBy_20 : decode cX11_readBy 20 = .ok (.getfield 7, 3) := by decide +kernel
theorem dX11_readBy_23 : decode cX11_readBy 23 = .ok (.iconst 3, 1) := by decide +kernel
theorem dX11_readBy_24 : decode cX11_readBy 24 = .ok (.iload_n 3, 1) := by decide +kernel
theorem dX11_readBy_25 : decode cX11_readBy 25 = .ok (.iadd, 1) := by decide +kernel
theorem dX11_readBy_26 : decode cX11_readBy 26 = .ok (.iaload, 1) := by decide +kernel
theorem dX11_readBy_27 : decode cX11_readBy 27 = .ok (.iload_n 1, 1) := by decide +kernel
theorem dX11_readBy_28 : decode cX11_readBy 28 = .ok (.invokevirtual 142, 3) := by decide +kernel
theorem dX11_readBy_31 : decode cX11_readBy 31 = .ok (.iadd, 1) := by decide +kernel
theorem dX11_readBy_32 : decode cX11_readBy 32 = .ok (.istore_n 2, 1) := by decide +kernel
theorem dX11_readBy_33 : decode cX11_readBy 33 = .ok (.iinc 3 1, 3) := by decide +kernel
theorem dX11_readBy_36 : decode cX11_readBy 36 = .ok (.goto (-32), 3) := by decide +kernel
theorem dX11_readBy_39 : decode cX11_readBy 39 = .ok (.iload_n 2, 1) := by decide +kernel
theorem dX11_readBy_40 : decode cX11_readBy 40 = .ok (.ireturn, 1) := by decide +kernel
theorem dX11_rightBy_0 : decode cX11_rightBy 0 = .ok (.iconst 0, 1) := by decide +kernel
theorem dX11_rightBy_1 : decode cX11_rightBy 1 = .ok (.istore_n 2, 1) := by decide +kernel
theorem dX11_rightBy_2 : decode cX11_rightBy 2 = .ok (.iconst 0, 1) := by decide +kernel
theorem dX11_rightBy_3 : decode cX11_rightBy 3 = .ok (.istore_n 3, 1) := by decide +kernel
theorem dX11_rightBy_4 : decode cX11_rightBy 4 = .ok (.iload_n 3, 1) := by decide +kernel
theorem dX11_rightBy_5 : decode cX11_rightBy 5 = .ok (.aload_n 0, 1) := by decide +kernel
theorem dX11_rightBy_6 : decode cX11_rightBy 6 = .ok (.getfield 7, 3) := by decide +kernel
theorem dX11_rightBy_9 : decode cX11_rightBy 9 = .ok (.iconst 1, 1) := by decide +kernel
theorem dX11_rightBy_10 : decode cX11_rightBy 10 = .ok (.iaload, 1) := by decide +kernel
theorem dX11_rightBy_11 : decode cX11_rightBy 11 = .ok (.if_icmp .ge 27, 3) := by decide +kernel
theorem dX11_rightBy_14 : decode cX11_rightBy 14 = .ok (.bipush 10, 2) := by decide +kernel
theorem dX11_rightBy_16 : decode cX11_rightBy 16 = .ok (.iload_n 2, 1) := by decide +kernel
theorem dX11_rightBy_17 : decode cX11_rightBy 17 = .ok (.imul, 1) := by decide +kernel
theorem dX11_rightBy_18 : decode cX11_rightBy 18 = .ok (.aload_n 0, 1) := by decide +kernel
theorem dX11_rightBy_19 : decode cX11_rightBy 19 = .ok (.aload_n 0, 1) := by decide +kernel
theorem dX11_rightBy_20 : decode cX11_rightBy 20 = .ok (.getfield 7, 3) := by decide +kernel
theorem dX11_rightBy_23 : decode cX11_rightBy 23 = .ok (.iconst 3, 1) := by decide +kernel
theorem dX11_rightBy_24 : decode cX11_rightBy 24 = .ok (.iload_n 3, 1) := by decide +kernel
theorem dX11_rightBy_25 : decode cX11_rightBy 25 = .ok (.iadd, 1) := by decide +kernel
theorem dX11_rightBy_26 : decode cX11_rightBy 26 = .ok (.iaload, 1) := by decide +kernel
theorem dX11_rightBy_27 : decode cX11_rightBy 27 = .ok (.invokevirtual 123, 3) := by decide +kernel
theorem dX11_rightBy_30 : decode cX11_rightBy 30 = .ok (.iadd, 1) := by decide +kernel
theorem dX11_rightBy_31 : decode cX11_rightBy 31 = .ok (.istore_n 2, 1) := by decide +kernel
theorem dX11_rightBy_32 : decode cX11_rightBy 32 = .ok (.iinc 3 1, 3) := by decide +kernel
theorem dX11_rightBy_35 : decode cX11_rightBy 35 = .ok (.goto (-31), 3) := by decide +kernel
theorem dX11_rightBy_38 : decode cX11_rightBy 38 = .ok (.iload_n 2, 1) := by decide +kernel
theorem dX11_rightBy_39 : decode cX11_rightBy 39 = .ok (.iload_n 1, 1) := by decide +kernel
theorem dX11_rightBy_40 : decode cX11_rightBy 40 = .ok (.imul, 1) := by decide +kernel
theorem dX11_rightBy_41 : decode cX11_rightBy 41 = .ok (.ireturn, 1) := by decide +kernel
theorem dX11_reads_0 : decode cX11_reads 0 = .ok (.iload_n 1, 1) := by decide +kernel
theorem dX11_reads_1 : decode cX11_reads 1 = .ok (.invokestatic 151, 3) := by decide +kernel
theorem dX11_reads_4 : decode cX11_reads 4 = .ok (.ifCond .ne 5, 3) := by decide +kernel
theorem dX11_reads_7 : decode cX11_reads 7 = .ok (.iconst (-1), 1) := by decide +kernel
theorem dX11_reads_8 : decode cX11_reads 8 = .ok (.ireturn, 1) := by decide +kernel
theorem dX11_reads_9 : decode cX11_reads 9 = .ok (.aload_n 0, 1) := by decide +kernel
theorem dX11_reads_10 : decode cX11_reads 10 = .ok (.aload_n 0, 1) := by decide +kernel
theorem dX11_reads_11 : decode cX11_reads 11 = .ok (.iload_n 1, 1) := by decide +kernel
theorem dX11_reads_12 : decode cX11_reads 12 = .ok (.invokevirtual 170, 3) := by decide +kernel
theorem dX11_reads_15 : decode cX11_reads 15 = .ok (.putfield 60, 3) := by decide +kernel
theorem dX11_reads_18 : decode cX11_reads 18 = .ok (.aload_n 0, 1) := by decide +kernel
theorem dX11_reads_19 : decode cX11_reads 19 = .ok (.iload_n 1, 1) := by decide +kernel
theorem dX11_reads_20 : decode cX11_reads 20 = .ok (.invokevirtual 173, 3) := by decide +kernel
theorem dX11_reads_23 : decode cX11_reads 23 = .ok (.ireturn, 1) := by decide +kernel
theorem dX11_wrong_0 : decode cX11_wrong 0 = .ok (.iconst 0, 1) := by decide +kernel
theorem dX11_wrong_1 : decode cX11_wrong 1 = .ok (.istore_n 1, 1) := by decide +kernel
theorem dX11_wrong_2 : decode cX11_wrong 2 = .ok (.iconst 1, 1) := by decide +kernel
theorem dX11_wrong_3 : decode cX11_wrong 3 = .ok (.istore_n 2, 1) := by decide +kernel
theorem dX11_wrong_4 : decode cX11_wrong 4 = .ok (.iload_n 2, 1) := by decide +kernel
theorem dX11_wrong_5 : decode cX11_wrong 5 = .ok (.bipush 10, 2) := by decide +kernel
theorem dX11_wrong_7 : decode cX11_wrong 7 = .ok (.if_icmp .ge 32, 3) := by decide +kernel
theorem dX11_wrong_10 : decode cX11_wrong 10 = .ok (.iload_n 1, 1) := by decide +kernel
theorem dX11_wrong_11 : decode cX11_wrong 11 = .ok (.aload_n 0, 1) := by decide +kernel
theorem dX11_wrong_12 : decode cX11_wrong 12 = .ok (.iload_n 2, 1) := by decide +kernel
theorem dX11_wrong_13 : decode cX11_wrong 13 = .ok (.invokevirtual 173, 3) := by decide +kernel
theorem dX11_wrong_16 : decode cX11_wrong 16 = .ok (.aload_n 0, 1) := by decide +kernel
theorem dX11_wrong_17 : decode cX11_wrong 17 = .ok (.iload_n 2, 1) := by decide +kernel
theorem dX11_wrong_18 : decode cX11_wrong 18 = .ok (.invokevirtual 170, 3) := by decide +kernel
theorem dX11_wrong_21 : decode cX11_wrong 21 = .ok (.if_icmp .eq 9, 3) := by decide +kernel
theorem dX11_wrong_24 : decode cX11_wrong 24 = .ok (.iconst 1, 1) := by decide +kernel
theorem dX11_wrong_25 : decode cX11_wrong 25 = .ok (.iload_n 2, 1) := by decide +kernel
theorem dX11_wrong_26 : decode cX11_wrong 26 = .ok (.ishl, 1) := by decide +kernel
theorem dX11_wrong_27 : decode cX11_wrong 27 = .ok (.goto 4, 3) := by decide +kernel
theorem dX11_wrong_30 : decode cX11_wrong 30 = .ok (.iconst 0, 1) := by decide +kernel
theorem dX11_wrong_31 : decode cX11_wrong 31 = .ok (.ior, 1) := by decide +kernel
theorem dX11_wrong_32 : decode cX11_wrong 32 = .ok (.istore_n 1, 1) := by decide +kernel
theorem dX11_wrong_33 : decode cX11_wrong 33 = .ok (.iinc 2 1, 3) := by decide +kernel
theorem dX11_wrong_36 : decode cX11_wrong 36 = .ok (.goto (-32), 3) := by decide +kernel
theorem dX11_wrong_39 : decode cX11_wrong 39 = .ok (.iload_n 1, 1) := by decide +kernel
theorem dX11_wrong_40 : decode cX11_wrong 40 = .ok (.ireturn, 1) := by decide +kernel
theorem dX11_carries_0 : decode cX11_carries 0 = .ok (.iload_n 1, 1) := by decide +kernel
theorem dX11_carries_1 : decode cX11_carries 1 = .ok (.invokestatic 151, 3) := by decide +kernel
theorem dX11_carries_4 : decode cX11_carries 4 = .ok (.ifCond .ne 5, 3) := by decide +kernel
theorem dX11_carries_7 : decode cX11_carries 7 = .ok (.iconst (-1), 1) := by decide +kernel
theorem dX11_carries_8 : decode cX11_carries 8 = .ok (.ireturn, 1) := by decide +kernel
theorem dX11_carries_9 : decode cX11_carries 9 = .ok (.iconst 0, 1) := by decide +kernel
theorem dX11_carries_10 : decode cX11_carries 10 = .ok (.istore_n 2, 1) := by decide +kernel
theorem dX11_carries_11 : decode cX11_carries 11 = .ok (.iconst 0, 1) := by decide +kernel
theorem dX11_carries_12 : decode cX11_carries 12 = .ok (.istore_n 3, 1) := by decide +kernel
theorem dX11_carries_13 : decode cX11_carries 13 = .ok (.iconst 0, 1) := by decide +kernel
theorem dX11_carries_14 : decode cX11_carries 14 = .ok (.istore 4, 2) := by decide +kernel
theorem dX11_carries_16 : decode cX11_carries 16 = .ok (.aload_n 0, 1) := by decide +kernel
theorem dX11_carries_17 : decode cX11_carries 17 = .ok (.getfield 7, 3) := by decide +kernel
theorem dX11_carries_20 : decode cX11_carries 20 = .ok (.iconst 1, 1) := by decide +kernel
theorem dX11_carries_21 : decode cX11_carries 21 = .ok (.iaload, 1) := by decide +kernel
theorem dX11_carries_22 : decode cX11_carries 22 = .ok (.iconst 1, 1) := by decide +kernel
theorem dX11_carries_23 : decode cX11_carries 23 = .ok (.isub, 1) := by decide +kernel
theorem dX11_carries_24 : decode cX11_carries 24 = .ok (.istore 5, 2) := by decide +kernel
theorem dX11_carries_26 : decode cX11_carries 26 = .ok (.iload 5, 2) := by decide +kernel
theorem dX11_carries_28 : decode cX11_carries 28 = .ok (.ifCond .lt 62, 3) := by decide +kernel
theorem dX11_carries_31 : decode cX11_carries 31 = .ok (.aload_n 0, 1) := by decide +kernel
theorem dX11_carries_32 : decode cX11_carries 32 = .ok (.aload_n 0, 1) := by decide +kernel
theorem dX11_carries_33 : decode cX11_carries 33 = .ok (.getfield 7, 3) := by decide +kernel
theorem dX11_carries_36 : decode cX11_carries 36 = .ok (.iconst 3, 1) := by decide +kernel
theorem dX11_carries_37 : decode cX11_carries 37 = .ok (.iload 5, 2) := by decide +kernel
theorem dX11_carries_39 : decode cX11_carries 39 = .ok (.iadd, 1) := by decide +kernel
theorem dX11_carries_40 : decode cX11_carries 40 = .ok (.iaload, 1) := by decide +kernel
theorem dX11_carries_41 : decode cX11_carries 41 = .ok (.iload_n 1, 1) := by decide +kernel
theorem dX11_carries_42 : decode cX11_carries 42 = .ok (.invokevirtual 142, 3) := by decide +kernel
theorem dX11_carries_45 : decode cX11_carries 45 = .ok (.iload_n 2, 1) := by decide +kernel
theorem dX11_carries_46 : decode cX11_carries 46 = .ok (.iadd, 1) := by decide +kernel
theorem dX11_carries_47 : decode cX11_carries 47 = .ok (.istore 6, 2) := by decide +kernel
theorem dX11_carries_49 : decode cX11_carries 49 = .ok (.iload 6, 2) := by decide +kernel
theorem dX11_carries_51 : decode cX11_carries 51 = .ok (.bipush 10, 2) := by decide +kernel
theorem dX11_carries_53 : decode cX11_carries 53 = .ok (.idiv, 1) := by decide +kernel
theorem dX11_carries_54 : decode cX11_carries 54 = .ok (.istore_n 2, 1) := by decide +kernel
theorem dX11_carries_55 : decode cX11_carries 55 = .ok (.iload_n 3, 1) := by decide +kernel
theorem dX11_carries_56 : decode cX11_carries 56 = .ok (.iload 6, 2) := by decide +kernel
theorem dX11_carries_58 : decode cX11_carries 58 = .ok (.bipush 10, 2) := by decide +kernel
theorem dX11_carries_60 : decode cX11_carries 60 = .ok (.if_icmp .lt 7, 3) := by decide +kernel
theorem dX11_carries_63 : decode cX11_carries 63 = .ok (.iconst 1, 1) := by decide +kernel
theorem dX11_carries_64 : decode cX11_carries 64 = .ok (.goto 4, 3) := by decide +kernel
theorem dX11_carries_67 : decode cX11_carries 67 = .ok (.iconst 0, 1) := by decide +kernel
theorem dX11_carries_68 : decode cX11_carries 68 = .ok (.iadd, 1) := by decide +kernel
theorem dX11_carries_69 : decode cX11_carries 69 = .ok (.istore_n 3, 1) := by decide +kernel
theorem dX11_carries_70 : decode cX11_carries 70 = .ok (.iload_n 2, 1) := by decide +kernel
theorem dX11_carries_71 : decode cX11_carries 71 = .ok (.iload 4, 2) := by decide +kernel
theorem dX11_carries_73 : decode cX11_carries 73 = .ok (.if_icmp .le 7, 3) := by decide +kernel
theorem dX11_carries_76 : decode cX11_carries 76 = .ok (.iload_n 2, 1) := by decide +kernel
theorem dX11_carries_77 : decode cX11_carries 77 = .ok (.goto 5, 3) := by decide +kernel
theorem dX11_carries_80 : decode cX11_carries 80 = .ok (.iload 4, 2) := by decide +kernel
theorem dX11_carries_82 : decode cX11_carries 82 = .ok (.istore 4, 2) := by decide +kernel
theorem dX11_carries_84 : decode cX11_carries 84 = .ok (.iinc 5 (-1), 3) := by decide +kernel
theorem dX11_carries_87 : decode cX11_carries 87 = .ok (.goto (-61), 3) := by decide +kernel
theorem dX11_carries_90 : decode cX11_carries 90 = .ok (.aload_n 0, 1) := by decide +kernel
theorem dX11_carries_91 : decode cX11_carries 91 = .ok (.iload 4, 2) := by decide +kernel
theorem dX11_carries_93 : decode cX11_carries 93 = .ok (.putfield 60, 3) := by decide +kernel
theorem dX11_carries_96 : decode cX11_carries 96 = .ok (.iload_n 3, 1) := by decide +kernel
theorem dX11_carries_97 : decode cX11_carries 97 = .ok (.ireturn, 1) := by decide +kernel
theorem dX11_goesNext_0 : decode cX11_goesNext 0 = .ok (.iload_n 3, 1) := by decide +kernel
theorem dX11_goesNext_1 : decode cX11_goesNext 1 = .ok (.ifCond .eq 28, 3) := by decide +kernel
theorem dX11_goesNext_4 : decode cX11_goesNext 4 = .ok (.aload_n 0, 1) := by decide +kernel
theorem dX11_goesNext_5 : decode cX11_goesNext 5 = .ok (.iconst 0, 1) := by decide +kernel
theorem dX11_goesNext_6 : decode cX11_goesNext 6 = .ok (.putfield 176, 3) := by decide +kernel
theorem dX11_goesNext_9 : decode cX11_goesNext 9 = .ok (.aload_n 0, 1) := by decide +kernel
theorem dX11_goesNext_10 : decode cX11_goesNext 10 = .ok (.getfield 38, 3) := by decide +kernel
theorem dX11_goesNext_13 : decode cX11_goesNext 13 = .ok (.iconst 0, 1) := by decide +kernel
theorem dX11_goesNext_14 : decode cX11_goesNext 14 = .ok (.iconst (-1), 1) := by decide +kernel
theorem dX11_goesNext_15 : decode cX11_goesNext 15 = .ok (.iastore, 1) := by decide +kernel
theorem dX11_goesNext_16 : decode cX11_goesNext 16 = .ok (.aload_n 0, 1) := by decide +kernel
theorem dX11_goesNext_17 : decode cX11_goesNext 17 = .ok (.getfield 41, 3) := by decide +kernel
theorem dX11_goesNext_20 : decode cX11_goesNext 20 = .ok (.iconst 0, 1) := by decide +kernel
theorem dX11_goesNext_21 : decode cX11_goesNext 21 = .ok (.iconst 0, 1) := by decide +kernel
theorem dX11_goesNext_22 : decode cX11_goesNext 22 = .ok (.iastore, 1) := by decide +kernel
theorem dX11_goesNext_23 : decode cX11_goesNext 23 = .ok (.iload_n 1, 1) := by decide +kernel
theorem dX11_goesNext_24 : decode cX11_goesNext 24 = .ok (.ifCond .ne 12, 3) := by decide +kernel
theorem dX11_goesNext_27 : decode cX11_goesNext 27 = .ok (.iconst 1, 1) := by decide +kernel
theorem dX11_goesNext_28 : decode cX11_goesNext 28 = .ok (.ireturn, 1) := by decide +kernel
theorem dX11_goesNext_29 : decode cX11_goesNext 29 = .ok (.aload_n 0, 1) := by decide +kernel
theorem dX11_goesNext_30 : decode cX11_goesNext 30 = .ok (.iload_n 1, 1) := by decide +kernel
theorem dX11_goesNext_31 : decode cX11_goesNext 31 = .ok (.iconst 1, 1) := by decide +kernel
theorem dX11_goesNext_32 : decode cX11_goesNext 32 = .ok (.isub, 1) := by decide +kernel
theorem dX11_goesNext_33 : decode cX11_goesNext 33 = .ok (.putfield 176, 3) := by decide +kernel
theorem dX11_goesNext_36 : decode cX11_goesNext 36 = .ok (.aload_n 0, 1) := by decide +kernel
theorem dX11_goesNext_37 : decode cX11_goesNext 37 = .ok (.getfield 176, 3) := by decide +kernel
theorem dX11_goesNext_40 : decode cX11_goesNext 40 = .ok (.ifCond .lt 177, 3) := by decide +kernel
theorem dX11_goesNext_43 : decode cX11_goesNext 43 = .ok (.iconst 0, 1) := by decide +kernel
theorem dX11_goesNext_44 : decode cX11_goesNext 44 = .ok (.istore 4, 2) := by decide +kernel
theorem dX11_goesNext_46 : decode cX11_goesNext 46 = .ok (.iconst 0, 1) := by decide +kernel
theorem dX11_goesNext_47 : decode cX11_goesNext 47 = .ok (.istore 5, 2) := by decide +kernel
theorem dX11_goesNext_49 : decode cX11_goesNext 49 = .ok (.iload 5, 2) := by decide +kernel
theorem dX11_goesNext_51 : decode cX11_goesNext 51 = .ok (.aload_n 0, 1) := by decide +kernel
theorem dX11_goesNext_52 : decode cX11_goesNext 52 = .ok (.getfield 176, 3) := by decide +kernel
theorem dX11_goesNext_55 : decode cX11_goesNext 55 = .ok (.if_icmp .ge 23, 3) := by decide +kernel
theorem dX11_goesNext_58 : decode cX11_goesNext 58 = .ok (.iload 4, 2) := by decide +kernel
theorem dX11_goesNext_60 : decode cX11_goesNext 60 = .ok (.iconst 1, 1) := by decide +kernel
theorem dX11_goesNext_61 : decode cX11_goesNext 61 = .ok (.aload_n 0, 1) := by decide +kernel
theorem dX11_goesNext_62 : decode cX11_goesNext 62 = .ok (.getfield 38, 3) := by decide +kernel
theorem dX11_goesNext_65 : decode cX11_goesNext 65 = .ok (.iload 5, 2) := by decide +kernel
theorem dX11_goesNext_67 : decode cX11_goesNext 67 = .ok (.iaload, 1) := by decide +kernel
theorem dX11_goesNext_68 : decode cX11_goesNext 68 = .ok (.ishl, 1) := by decide +kernel
theorem dX11_goesNext_69 : decode cX11_goesNext 69 = .ok (.ior, 1) := by decide +kernel
theorem dX11_goesNext_70 : decode cX11_goesNext 70 = .ok (.istore 4, 2) := by decide +kernel
theorem dX11_goesNext_72 : decode cX11_goesNext 72 = .ok (.iinc 5 1, 3) := by decide +kernel
theorem dX11_goesNext_75 : decode cX11_goesNext 75 = .ok (.goto (-26), 3) := by decide +kernel
theorem dX11_goesNext_78 : decode cX11_goesNext 78 = .ok (.aload_n 0, 1) := by decide +kernel
theorem dX11_goesNext_79 : decode cX11_goesNext 79 = .ok (.getfield 38, 3) := by decide +kernel
theorem dX11_goesNext_82 : decode cX11_goesNext 82 = .ok (.aload_n 0, 1) := by decide +kernel
theorem dX11_goesNext_83 : decode cX11_goesNext 83 = .ok (.getfield 176, 3) := by decide +kernel
theorem dX11_goesNext_86 : decode cX11_goesNext 86 = .ok (.iaload, 1) := by decide +kernel
theorem dX11_goesNext_87 : decode cX11_goesNext 87 = .ok (.iconst 1, 1) := by decide +kernel
theorem dX11_goesNext_88 : decode cX11_goesNext 88 = .ok (.iadd, 1) := by decide +kernel
theorem dX11_goesNext_89 : decode cX11_goesNext 89 = .ok (.istore 5, 2) := by decide +kernel
theorem dX11_goesNext_91 : decode cX11_goesNext 91 = .ok (.iload 5, 2) := by decide +kernel
theorem dX11_goesNext_93 : decode cX11_goesNext 93 = .ok (.aload_n 0, 1) := by decide +kernel
theorem dX11_goesNext_94 : decode cX11_goesNext 94 = .ok (.getfield 7, 3) := by decide +kernel
theorem dX11_goesNext_97 : decode cX11_goesNext 97 = .ok (.iconst 0, 1) := by decide +kernel
theorem dX11_goesNext_98 : decode cX11_goesNext 98 = .ok (.iaload, 1) := by decide +kernel
theorem dX11_goesNext_99 : decode cX11_goesNext 99 = .ok (.if_icmp .ge 19, 3) := by decide +kernel
theorem dX11_goesNext_102 : decode cX11_goesNext 102 = .ok (.iload 4, 2) := by decide +kernel
theorem dX11_goesNext_104 : decode cX11_goesNext 104 = .ok (.iload 5, 2) := by decide +kernel
theorem dX11_goesNext_106 : decode cX11_goesNext 106 = .ok (.invokestatic 119, 3) := by decide +kernel
theorem dX11_goesNext_109 : decode cX11_goesNext 109 = .ok (.ifCond .eq 9, 3) := by decide +kernel
theorem dX11_goesNext_112 : decode cX11_goesNext 112 = .ok (.iinc 5 1, 3) := by decide +kernel
theorem dX11_goesNext_115 : decode cX11_goesNext 115 = .ok (.goto (-24), 3) := by decide +kernel
theorem dX11_goesNext_118 : decode cX11_goesNext 118 = .ok (.aload_n 0, 1) := by decide +kernel
theorem dX11_goesNext_119 : decode cX11_goesNext 119 = .ok (.getfield 38, 3) := by decide +kernel
theorem dX11_goesNext_122 : decode cX11_goesNext 122 = .ok (.aload_n 0, 1) := by decide +kernel
theorem dX11_goesNext_123 : decode cX11_goesNext 123 = .ok (.getfield 176, 3) := by decide +kernel
theorem dX11_goesNext_126 : decode cX11_goesNext 126 = .ok (.iload 5, 2) := by decide +kernel
theorem dX11_goesNext_128 : decode cX11_goesNext 128 = .ok (.iastore, 1) := by decide +kernel
theorem dX11_goesNext_129 : decode cX11_goesNext 129 = .ok (.iload 5, 2) := by decide +kernel
theorem dX11_goesNext_131 : decode cX11_goesNext 131 = .ok (.aload_n 0, 1) := by decide +kernel
theorem dX11_goesNext_132 : decode cX11_goesNext 132 = .ok (.getfield 7, 3) := by decide +kernel
theorem dX11_goesNext_135 : decode cX11_goesNext 135 = .ok (.iconst 0, 1) := by decide +kernel
theorem dX11_goesNext_136 : decode cX11_goesNext 136 = .ok (.iaload, 1) := by decide +kernel
theorem dX11_goesNext_137 : decode cX11_goesNext 137 = .ok (.if_icmp .ne 16, 3) := by decide +kernel
theorem dX11_goesNext_140 : decode cX11_goesNext 140 = .ok (.aload_n 0, 1) := by decide +kernel
theorem dX11_goesNext_141 : decode cX11_goesNext 141 = .ok (.dup, 1) := by decide +kernel
theorem dX11_goesNext_142 : decode cX11_goesNext 142 = .ok (.getfield 176, 3) := by decide +kernel
theorem dX11_goesNext_145 : decode cX11_goesNext 145 = .ok (.iconst 1, 1) := by decide +kernel
theorem dX11_goesNext_146 : decode cX11_goesNext 146 = .ok (.isub, 1) := by decide +kernel
theorem dX11_goesNext_147 : decode cX11_goesNext 147 = .ok (.putfield 176, 3) := by decide +kernel
theorem dX11_goesNext_150 : decode cX11_goesNext 150 = .ok (.goto 64, 3) := by decide +kernel
theorem dX11_goesNext_153 : decode cX11_goesNext 153 = .ok (.aload_n 0, 1) := by decide +kernel
theorem dX11_goesNext_154 : decode cX11_goesNext 154 = .ok (.getfield 41, 3) := by decide +kernel
theorem dX11_goesNext_157 : decode cX11_goesNext 157 = .ok (.aload_n 0, 1) := by decide +kernel
theorem dX11_goesNext_158 : decode cX11_goesNext 158 = .ok (.getfield 176, 3) := by decide +kernel
theorem dX11_goesNext_161 : decode cX11_goesNext 161 = .ok (.iconst 1, 1) := by decide +kernel
theorem dX11_goesNext_162 : decode cX11_goesNext 162 = .ok (.iadd, 1) := by decide +kernel
theorem dX11_goesNext_163 : decode cX11_goesNext 163 = .ok (.bipush 10, 2) := by decide +kernel
theorem dX11_goesNext_165 : decode cX11_goesNext 165 = .ok (.aload_n 0, 1) := by decide +kernel
theorem dX11_goesNext_166 : decode cX11_goesNext 166 = .ok (.getfield 41, 3) := by decide +kernel
theorem dX11_goesNext_169 : decode cX11_goesNext 169 = .ok (.aload_n 0, 1) := by decide +kernel
theorem dX11_goesNext_170 : decode cX11_goesNext 170 = .ok (.getfield 176, 3) := by decide +kernel
theorem dX11_goesNext_173 : decode cX11_goesNext 173 = .ok (.iaload, 1) := by decide +kernel
theorem dX11_goesNext_174 : decode cX11_goesNext 174 = .ok (.imul, 1) := by decide +kernel
theorem dX11_goesNext_175 : decode cX11_goesNext 175 = .ok (.aload_n 0, 1) := by decide +kernel
theorem dX11_goesNext_176 : decode cX11_goesNext 176 = .ok (.iload 5, 2) := by decide +kernel
theorem dX11_goesNext_178 : decode cX11_goesNext 178 = .ok (.iload_n 2, 1) := by decide +kernel
theorem dX11_goesNext_179 : decode cX11_goesNext 179 = .ok (.invokevirtual 142, 3) := by decide +kernel
theorem dX11_goesNext_182 : decode cX11_goesNext 182 = .ok (.iadd, 1) := by decide +kernel
theorem dX11_goesNext_183 : decode cX11_goesNext 183 = .ok (.iastore, 1) := by decide +kernel
theorem dX11_goesNext_184 : decode cX11_goesNext 184 = .ok (.aload_n 0, 1) := by decide +kernel
theorem dX11_goesNext_185 : decode cX11_goesNext 185 = .ok (.dup, 1) := by decide +kernel
theorem dX11_goesNext_186 : decode cX11_goesNext 186 = .ok (.getfield 176, 3) := by decide +kernel
theorem dX11_goesNext_189 : decode cX11_goesNext 189 = .ok (.iconst 1, 1) := by decide +kernel
theorem dX11_goesNext_190 : decode cX11_goesNext 190 = .ok (.iadd, 1) := by decide +kernel
theorem dX11_goesNext_191 : decode cX11_goesNext 191 = .ok (.putfield 176, 3) := by decide +kernel
theorem dX11_goesNext_194 : decode cX11_goesNext 194 = .ok (.aload_n 0, 1) := by decide +kernel
theorem dX11_goesNext_195 : decode cX11_goesNext 195 = .ok (.getfield 176, 3) := by decide +kernel
theorem dX11_goesNext_198 : decode cX11_goesNext 198 = .ok (.iload_n 1, 1) := by decide +kernel
theorem dX11_goesNext_199 : decode cX11_goesNext 199 = .ok (.if_icmp .ne 5, 3) := by decide +kernel
theorem dX11_goesNext_202 : decode cX11_goesNext 202 = .ok (.iconst 1, 1) := by decide +kernel
theorem dX11_goesNext_203 : decode cX11_goesNext 203 = .ok (.ireturn, 1) := by decide +kernel
theorem dX11_goesNext_204 : decode cX11_goesNext 204 = .ok (.aload_n 0, 1) := by decide +kernel
theorem dX11_goesNext_205 : decode cX11_goesNext 205 = .ok (.getfield 38, 3) := by decide +kernel
theorem dX11_goesNext_208 : decode cX11_goesNext 208 = .ok (.aload_n 0, 1) := by decide +kernel
theorem dX11_goesNext_209 : decode cX11_goesNext 209 = .ok (.getfield 176, 3) := by decide +kernel
theorem dX11_goesNext_212 : decode cX11_goesNext 212 = .ok (.iconst (-1), 1) := by decide +kernel
theorem dX11_goesNext_213 : decode cX11_goesNext 213 = .ok (.iastore, 1) := by decide +kernel
theorem dX11_goesNext_214 : decode cX11_goesNext 214 = .ok (.goto (-178), 3) := by decide +kernel
theorem dX11_goesNext_217 : decode cX11_goesNext 217 = .ok (.iconst 0, 1) := by decide +kernel
theorem dX11_goesNext_218 : decode cX11_goesNext 218 = .ok (.ireturn, 1) := by decide +kernel
theorem dX11_keeps_0 : decode cX11_keeps 0 = .ok (.iconst 0, 1) := by decide +kernel
theorem dX11_keeps_1 : decode cX11_keeps 1 = .ok (.istore_n 2, 1) := by decide +kernel
theorem dX11_keeps_2 : decode cX11_keeps 2 = .ok (.iload_n 2, 1) := by decide +kernel
theorem dX11_keeps_3 : decode cX11_keeps 3 = .ok (.iload_n 1, 1) := by decide +kernel
theorem dX11_keeps_4 : decode cX11_keeps 4 = .ok (.if_icmp .ge 21, 3) := by decide +kernel
theorem dX11_keeps_7 : decode cX11_keeps 7 = .ok (.aload_n 0, 1) := by decide +kernel
theorem dX11_keeps_8 : decode cX11_keeps 8 = .ok (.getfield 44, 3) := by decide +kernel
theorem dX11_keeps_11 : decode cX11_keeps 11 = .ok (.iload_n 2, 1) := by decide +kernel
theorem dX11_keeps_12 : decode cX11_keeps 12 = .ok (.aload_n 0, 1) := by decide +kernel
theorem dX11_keeps_13 : decode cX11_keeps 13 = .ok (.getfield 38, 3) := by decide +kernel
theorem dX11_keeps_16 : decode cX11_keeps 16 = .ok (.iload_n 2, 1) := by decide +kernel
theorem dX11_keeps_17 : decode cX11_keeps 17 = .ok (.iaload, 1) := by decide +kernel
theorem dX11_keeps_18 : decode cX11_keeps 18 = .ok (.iastore, 1) := by decide +kernel
theorem dX11_keeps_19 : decode cX11_keeps 19 = .ok (.iinc 2 1, 3) := by decide +kernel
theorem dX11_keeps_22 : decode cX11_keeps 22 = .ok (.goto (-20), 3) := by decide +kernel
theorem dX11_keeps_25 : decode cX11_keeps 25 = .ok (.return_, 1) := by decide +kernel
theorem dX11_laysBest_0 : decode cX11_laysBest 0 = .ok (.aload_n 0, 1) := by decide +kernel
theorem dX11_laysBest_1 : decode cX11_laysBest 1 = .ok (.getfield 13, 3) := by decide +kernel
theorem dX11_laysBest_4 : decode cX11_laysBest 4 = .ok (.iload_n 2, 1) := by decide +kernel
theorem dX11_laysBest_5 : decode cX11_laysBest 5 = .ok (.iload_n 1, 1) := by decide +kernel
theorem dX11_laysBest_6 : decode cX11_laysBest 6 = .ok (.iastore, 1) := by decide +kernel
theorem dX11_laysBest_7 : decode cX11_laysBest 7 = .ok (.iconst 0, 1) := by decide +kernel
theorem dX11_laysBest_8 : decode cX11_laysBest 8 = .ok (.istore_n 3, 1) := by decide +kernel
theorem dX11_laysBest_9 : decode cX11_laysBest 9 = .ok (.iload_n 3, 1) := by decide +kernel
theorem dX11_laysBest_10 : decode cX11_laysBest 10 = .ok (.bipush 40, 2) := by decide +kernel
theorem dX11_laysBest_12 : decode cX11_laysBest 12 = .ok (.if_icmp .ge 35, 3) := by decide +kernel
theorem dX11_laysBest_15 : decode cX11_laysBest 15 = .ok (.aload_n 0, 1) := by decide +kernel
theorem dX11_laysBest_16 : decode cX11_laysBest 16 = .ok (.getfield 16, 3) := by decide +kernel
theorem dX11_laysBest_19 : decode cX11_laysBest 19 = .ok (.bipush 40, 2) := by decide +kernel
theorem dX11_laysBest_21 : decode cX11_laysBest 21 = .ok (.iload_n 2, 1) := by decide +kernel
theorem dX11_laysBest_22 : decode cX11_laysBest 22 = .ok (.imul, 1) := by decide +kernel
theorem dX11_laysBest_23 : decode cX11_laysBest 23 = .ok (.iload_n 3, 1) := by decide +kernel
theorem dX11_laysBest_24 : decode cX11_laysBest 24 = .ok (.iadd, 1) := by decide +kernel
theorem dX11_laysBest_25 : decode cX11_laysBest 25 = .ok (.iload_n 3, 1) := by decide +kernel
theorem dX11_laysBest_26 : decode cX11_laysBest 26 = .ok (.iload_n 1, 1) := by decide +kernel
theorem dX11_laysBest_27 : decode cX11_laysBest 27 = .ok (.if_icmp .ge 12, 3) := by decide +kernel
theorem dX11_laysBest_30 : decode cX11_laysBest 30 = .ok (.aload_n 0, 1) := by decide +kernel
theorem dX11_laysBest_31 : decode cX11_laysBest 31 = .ok (.getfield 44, 3) := by decide +kernel
theorem dX11_laysBest_34 : decode cX11_laysBest 34 = .ok (.iload_n 3, 1) := by decide +kernel
theorem dX11_laysBest_35 : decode cX11_laysBest 35 = .ok (.iaload, 1) := by decide +kernel
theorem dX11_laysBest_36 : decode cX11_laysBest 36 = .ok (.goto 4, 3) := by decide +kernel
theorem dX11_laysBest_39 : decode cX11_laysBest 39 = .ok (.iconst 0, 1) := by decide +kernel
theorem dX11_laysBest_40 : decode cX11_laysBest 40 = .ok (.iastore, 1) := by decide +kernel
theorem dX11_laysBest_41 : decode cX11_laysBest 41 = .ok (.iinc 3 1, 3) := by decide +kernel
theorem dX11_laysBest_44 : decode cX11_laysBest 44 = .ok (.goto (-35), 3) := by decide +kernel
theorem dX11_laysBest_47 : decode cX11_laysBest 47 = .ok (.return_, 1) := by decide +kernel
theorem dX11_makes_0 : decode cX11_makes 0 = .ok (.iload_n 1, 1) := by decide +kernel
theorem dX11_makes_1 : decode cX11_makes 1 = .ok (.i2l, 1) := by decide +kernel
theorem dX11_makes_2 : decode cX11_makes 2 = .ok (.lconst 0, 1) := by decide +kernel
theorem dX11_makes_3 : decode cX11_makes 3 = .ok (.ldc2_w 179, 3) := by decide +kernel
theorem dX11_makes_6 : decode cX11_makes 6 = .ok (.invokestatic 68, 3) := by decide +kernel
theorem dX11_makes_9 : decode cX11_makes 9 = .ok (.ifCond .eq 17, 3) := by decide +kernel
theorem dX11_makes_12 : decode cX11_makes 12 = .ok (.iload_n 2, 1) := by decide +kernel
theorem dX11_makes_13 : decode cX11_makes 13 = .ok (.invokestatic 151, 3) := by decide +kernel
theorem dX11_makes_16 : decode cX11_makes 16 = .ok (.ifCond .eq 10, 3) := by decide +kernel
theorem dX11_makes_19 : decode cX11_makes 19 = .ok (.iload_n 3, 1) := by decide +kernel
theorem dX11_makes_20 : decode cX11_makes 20 = .ok (.invokestatic 76, 3) := by decide +kernel
theorem dX11_makes_23 : decode cX11_makes 23 = .ok (.ifCond .ne 5, 3) := by decide +kernel
theorem dX11_makes_26 : decode cX11_makes 26 = .ok (.iconst (-1), 1) := by decide +kernel
theorem dX11_makes_27 : decode cX11_makes 27 = .ok (.ireturn, 1) := by decide +kernel
theorem dX11_makes_28 : decode cX11_makes 28 = .ok (.aload_n 0, 1) := by decide +kernel
theorem dX11_makes_29 : decode cX11_makes 29 = .ok (.getfield 7, 3) := by decide +kernel
theorem dX11_makes_32 : decode cX11_makes 32 = .ok (.iconst 0, 1) := by decide +kernel
theorem dX11_makes_33 : decode cX11_makes 33 = .ok (.iaload, 1) := by decide +kernel
theorem dX11_makes_34 : decode cX11_makes 34 = .ok (.ifCond .ne 6, 3) := by decide +kernel
theorem dX11_makes_37 : decode cX11_makes 37 = .ok (.bipush (-4), 2) := by decide +kernel
theorem dX11_makes_39 : decode cX11_makes 39 = .ok (.ireturn, 1) := by decide +kernel
theorem dX11_makes_40 : decode cX11_makes 40 = .ok (.iconst 0, 1) := by decide +kernel
theorem dX11_makes_41 : decode cX11_makes 41 = .ok (.istore 4, 2) := by decide +kernel
theorem dX11_makes_43 : decode cX11_makes 43 = .ok (.iload 4, 2) := by decide +kernel
theorem dX11_makes_45 : decode cX11_makes 45 = .ok (.aload_n 0, 1) := by decide +kernel
theorem dX11_makes_46 : decode cX11_makes 46 = .ok (.getfield 7, 3) := by decide +kernel
theorem dX11_makes_49 : decode cX11_makes 49 = .ok (.iconst 0, 1) := by decide +kernel
theorem dX11_makes_50 : decode cX11_makes 50 = .ok (.iaload, 1) := by decide +kernel
theorem dX11_makes_51 : decode cX11_makes 51 = .ok (.if_icmp .gt 77, 3) := by decide +kernel
theorem dX11_makes_54 : decode cX11_makes 54 = .ok (.aload_n 0, 1) := by decide +kernel
theorem dX11_makes_55 : decode cX11_makes 55 = .ok (.iload 4, 2) := by decide +kernel
theorem dX11_makes_57 : decode cX11_makes 57 = .ok (.iload_n 2, 1) := by decide +kernel
theorem dX11_makes_58 : decode cX11_makes 58 = .ok (.iconst 1, 1) := by decide +kernel
theorem dX11_makes_59 : decode cX11_makes 59 = .ok (.invokevirtual 181, 3) := by decide +kernel
theorem dX11_makes_62 : decode cX11_makes 62 = .ok (.istore 5, 2) := by decide +kernel
theorem dX11_makes_64 : decode cX11_makes 64 = .ok (.iload 5, 2) := by decide +kernel
theorem dX11_makes_66 : decode cX11_makes 66 = .ok (.ifCond .eq 56, 3) := by decide +kernel
theorem dX11_makes_69 : decode cX11_makes 69 = .ok (.aload_n 0, 1) := by decide +kernel
theorem dX11_makes_70 : decode cX11_makes 70 = .ok (.getfield 41, 3) := by decide +kernel
theorem dX11_makes_73 : decode cX11_makes 73 = .ok (.iload 4, 2) := by decide +kernel
theorem dX11_makes_75 : decode cX11_makes 75 = .ok (.iaload, 1) := by decide +kernel
theorem dX11_makes_76 : decode cX11_makes 76 = .ok (.iload_n 1, 1) := by decide +kernel
theorem dX11_makes_77 : decode cX11_makes 77 = .ok (.if_icmp .ne 19, 3) := by decide +kernel
theorem dX11_makes_80 : decode cX11_makes 80 = .ok (.aload_n 0, 1) := by decide +kernel
theorem dX11_makes_81 : decode cX11_makes 81 = .ok (.iload 4, 2) := by decide +kernel
theorem dX11_makes_83 : decode cX11_makes 83 = .ok (.invokevirtual 185, 3) := by decide +kernel
theorem dX11_makes_86 : decode cX11_makes 86 = .ok (.aload_n 0, 1) := by decide +kernel
theorem dX11_makes_87 : decode cX11_makes 87 = .ok (.iload 4, 2) := by decide +kernel
theorem dX11_makes_89 : decode cX11_makes 89 = .ok (.iload_n 3, 1) := by decide +kernel
theorem dX11_makes_90 : decode cX11_makes 90 = .ok (.invokevirtual 188, 3) := by decide +kernel
theorem dX11_makes_93 : decode cX11_makes 93 = .ok (.iload 4, 2) := by decide +kernel
theorem dX11_makes_95 : decode cX11_makes 95 = .ok (.ireturn, 1) := by decide +kernel
theorem dX11_makes_96 : decode cX11_makes 96 = .ok (.iload 4, 2) := by decide +kernel
theorem dX11_makes_98 : decode cX11_makes 98 = .ok (.ifCond .le 18, 3) := by decide +kernel
theorem dX11_makes_101 : decode cX11_makes 101 = .ok (.aload_n 0, 1) := by decide +kernel
theorem dX11_makes_102 : decode cX11_makes 102 = .ok (.iload 4, 2) := by decide +kernel
theorem dX11_makes_104 : decode cX11_makes 104 = .ok (.iload_n 2, 1) := by decide +kernel
theorem dX11_makes_105 : decode cX11_makes 105 = .ok (.iconst 0, 1) := by decide +kernel
theorem dX11_makes_106 : decode cX11_makes 106 = .ok (.invokevirtual 181, 3) := by decide +kernel
theorem dX11_makes_109 : decode cX11_makes 109 = .ok (.ifCond .eq 7, 3) := by decide +kernel
theorem dX11_makes_112 : decode cX11_makes 112 = .ok (.iconst 1, 1) := by decide +kernel
theorem dX11_makes_113 : decode cX11_makes 113 = .ok (.goto 4, 3) := by decide +kernel
theorem dX11_makes_116 : decode cX11_makes 116 = .ok (.iconst 0, 1) := by decide +kernel
theorem dX11_makes_117 : decode cX11_makes 117 = .ok (.istore 5, 2) := by decide +kernel
theorem dX11_makes_119 : decode cX11_makes 119 = .ok (.goto (-55), 3) := by decide +kernel
theorem dX11_makes_122 : decode cX11_makes 122 = .ok (.iinc 4 1, 3) := by decide +kernel
theorem dX11_makes_125 : decode cX11_makes 125 = .ok (.goto (-82), 3) := by decide +kernel
theorem dX11_makes_128 : decode cX11_makes 128 = .ok (.bipush (-9), 2) := by decide +kernel
theorem dX11_makes_130 : decode cX11_makes 130 = .ok (.ireturn, 1) := by decide +kernel
theorem dX11_most_0 : decode cX11_most 0 = .ok (.iload_n 2, 1) := by decide +kernel
theorem dX11_most_1 : decode cX11_most 1 = .ok (.invokestatic 151, 3) := by decide +kernel
theorem dX11_most_4 : decode cX11_most 4 = .ok (.ifCond .eq 10, 3) := by decide +kernel
theorem dX11_most_7 : decode cX11_most 7 = .ok (.iload_n 3, 1) := by decide +kernel
theorem dX11_most_8 : decode cX11_most 8 = .ok (.invokestatic 76, 3) := by decide +kernel
theorem dX11_most_11 : decode cX11_most 11 = .ok (.ifCond .ne 5, 3) := by decide +kernel
theorem dX11_most_14 : decode cX11_most 14 = .ok (.iconst (-1), 1) := by decide +kernel
theorem dX11_most_15 : decode cX11_most 15 = .ok (.ireturn, 1) := by decide +kernel
theorem dX11_most_16 : decode cX11_most 16 = .ok (.aload_n 0, 1) := by decide +kernel
theorem dX11_most_17 : decode cX11_most 17 = .ok (.getfield 7, 3) := by decide +kernel
theorem dX11_most_20 : decode cX11_most 20 = .ok (.iconst 0, 1) := by decide +kernel
theorem dX11_most_21 : decode cX11_most 21 = .ok (.iaload, 1) := by decide +kernel
theorem dX11_most_22 : decode cX11_most 22 = .ok (.ifCond .ne 6, 3) := by decide +kernel
theorem dX11_most_25 : decode cX11_most 25 = .ok (.bipush (-4), 2) := by decide +kernel
theorem dX11_most_27 : decode cX11_most 27 = .ok (.ireturn, 1) := by decide +kernel
theorem dX11_most_28 : decode cX11_most 28 = .ok (.iload_n 1, 1) := by decide +kernel
theorem dX11_most_29 : decode cX11_most 29 = .ok (.i2l, 1) := by decide +kernel
theorem dX11_most_30 : decode cX11_most 30 = .ok (.lconst 1, 1) := by decide +kernel
theorem dX11_most_31 : decode cX11_most 31 = .ok (.ldc2_w 66, 3) := by decide +kernel
theorem dX11_most_34 : decode cX11_most 34 = .ok (.invokestatic 68, 3) := by decide +kernel
theorem dX11_most_37 : decode cX11_most 37 = .ok (.ifCond .eq 13, 3) := by decide +kernel
theorem dX11_most_40 : decode cX11_most 40 = .ok (.iload_n 1, 1) := by decide +kernel
theorem dX11_most_41 : decode cX11_most 41 = .ok (.aload_n 0, 1) := by decide +kernel
theorem dX11_most_42 : decode cX11_most 42 = .ok (.getfield 7, 3) := by decide +kernel
theorem dX11_most_45 : decode cX11_most 45 = .ok (.iconst 0, 1) := by decide +kernel
theorem dX11_most_46 : decode cX11_most 46 = .ok (.iaload, 1) := by decide +kernel
theorem dX11_most_47 : decode cX11_most 47 = .ok (.if_icmp .le 5, 3) := by decide +kernel
theorem dX11_most_50 : decode cX11_most 50 = .ok (.iconst (-1), 1) := by decide +kernel
theorem dX11_most_51 : decode cX11_most 51 = .ok (.ireturn, 1) := by decide +kernel
theorem dX11_most_52 : decode cX11_most 52 = .ok (.iconst (-1), 1) := by decide +kernel
theorem dX11_most_53 : decode cX11_most 53 = .ok (.istore 4, 2) := by decide +kernel
theorem dX11_most_55 : decode cX11_most 55 = .ok (.aload_n 0, 1) := by decide +kernel
theorem dX11_most_56 : decode cX11_most 56 = .ok (.iload_n 1, 1) := by decide +kernel
theorem dX11_most_57 : decode cX11_most 57 = .ok (.iload_n 2, 1) := by decide +kernel
theorem dX11_most_58 : decode cX11_most 58 = .ok (.iconst 1, 1) := by decide +kernel
theorem dX11_most_59 : decode cX11_most 59 = .ok (.invokevirtual 181, 3) := by decide +kernel
theorem dX11_most_62 : decode cX11_most 62 = .ok (.istore 5, 2) := by decide +kernel
theorem dX11_most_64 : decode cX11_most 64 = .ok (.iload 5, 2) := by decide +kernel
theorem dX11_most_66 : decode cX11_most 66 = .ok (.ifCond .eq 39, 3) := by decide +kernel
theorem dX11_most_69 : decode cX11_most 69 = .ok (.aload_n 0, 1) := by decide +kernel
theorem dX11_most_70 : decode cX11_most 70 = .ok (.getfield 41, 3) := by decide +kernel
theorem dX11_most_73 : decode cX11_most 73 = .ok (.iload_n 1, 1) := by decide +kernel
theorem dX11_most_74 : decode cX11_most 74 = .ok (.iaload, 1) := by decide +kernel
theorem dX11_most_75 : decode cX11_most 75 = .ok (.iload 4, 2) := by decide +kernel
theorem dX11_most_77 : decode cX11_most 77 = .ok (.if_icmp .le 16, 3) := by decide +kernel
theorem dX11_most_80 : decode cX11_most 80 = .ok (.aload_n 0, 1) := by decide +kernel
theorem dX11_most_81 : decode cX11_most 81 = .ok (.getfield 41, 3) := by decide +kernel
theorem dX11_most_84 : decode cX11_most 84 = .ok (.iload_n 1, 1) := by decide +kernel
theorem dX11_most_85 : decode cX11_most 85 = .ok (.iaload, 1) := by decide +kernel
theorem dX11_most_86 : decode cX11_most 86 = .ok (.istore 4, 2) := by decide +kernel
theorem dX11_most_88 : decode cX11_most 88 = .ok (.aload_n 0, 1) := by decide +kernel
theorem dX11_most_89 : decode cX11_most 89 = .ok (.iload_n 1, 1) := by decide +kernel
theorem dX11_most_90 : decode cX11_most 90 = .ok (.invokevirtual 185, 3) := by decide +kernel
theorem dX11_most_93 : decode cX11_most 93 = .ok (.aload_n 0, 1) := by decide +kernel
theorem dX11_most_94 : decode cX11_most 94 = .ok (.iload_n 1, 1) := by decide +kernel
theorem dX11_most_95 : decode cX11_most 95 = .ok (.iload_n 2, 1) := by decide +kernel
theorem dX11_most_96 : decode cX11_most 96 = .ok (.iconst 0, 1) := by decide +kernel
theorem dX11_most_97 : decode cX11_most 97 = .ok (.invokevirtual 181, 3) := by decide +kernel
theorem dX11_most_100 : decode cX11_most 100 = .ok (.istore 5, 2) := by decide +kernel
theorem dX11_most_102 : decode cX11_most 102 = .ok (.goto (-38), 3) := by decide +kernel
theorem dX11_most_105 : decode cX11_most 105 = .ok (.aload_n 0, 1) := by decide +kernel
theorem dX11_most_106 : decode cX11_most 106 = .ok (.iload_n 1, 1) := by decide +kernel
theorem dX11_most_107 : decode cX11_most 107 = .ok (.iload_n 3, 1) := by decide +kernel
theorem dX11_most_108 : decode cX11_most 108 = .ok (.invokevirtual 188, 3) := by decide +kernel
theorem dX11_most_111 : decode cX11_most 111 = .ok (.iload 4, 2) := by decide +kernel
theorem dX11_most_113 : decode cX11_most 113 = .ok (.ireturn, 1) := by decide +kernel
theorem dX11_near_0 : decode cX11_near 0 = .ok (.iload_n 1, 1) := by decide +kernel
theorem dX11_near_1 : decode cX11_near 1 = .ok (.i2l, 1) := by decide +kernel
theorem dX11_near_2 : decode cX11_near 2 = .ok (.lconst 0, 1) := by decide +kernel
theorem dX11_near_3 : decode cX11_near 3 = .ok (.ldc2_w 191, 3) := by decide +kernel
theorem dX11_near_6 : decode cX11_near 6 = .ok (.invokestatic 68, 3) := by decide +kernel
theorem dX11_near_9 : decode cX11_near 9 = .ok (.ifCond .eq 10, 3) := by decide +kernel
theorem dX11_near_12 : decode cX11_near 12 = .ok (.iload_n 2, 1) := by decide +kernel
theorem dX11_near_13 : decode cX11_near 13 = .ok (.invokestatic 151, 3) := by decide +kernel
theorem dX11_near_16 : decode cX11_near 16 = .ok (.ifCond .ne 5, 3) := by decide +kernel
theorem dX11_near_19 : decode cX11_near 19 = .ok (.iconst (-1), 1) := by decide +kernel
theorem dX11_near_20 : decode cX11_near 20 = .ok (.ireturn, 1) := by decide +kernel
theorem dX11_near_21 : decode cX11_near 21 = .ok (.aload_n 0, 1) := by decide +kernel
theorem dX11_near_22 : decode cX11_near 22 = .ok (.getfield 7, 3) := by decide +kernel
theorem dX11_near_25 : decode cX11_near 25 = .ok (.iconst 0, 1) := by decide +kernel
theorem dX11_near_26 : decode cX11_near 26 = .ok (.iaload, 1) := by decide +kernel
theorem dX11_near_27 : decode cX11_near 27 = .ok (.ifCond .ne 6, 3) := by decide +kernel
theorem dX11_near_30 : decode cX11_near 30 = .ok (.bipush (-4), 2) := by decide +kernel
theorem dX11_near_32 : decode cX11_near 32 = .ok (.ireturn, 1) := by decide +kernel
theorem dX11_near_33 : decode cX11_near 33 = .ok (.aload_n 0, 1) := by decide +kernel
theorem dX11_near_34 : decode cX11_near 34 = .ok (.getfield 7, 3) := by decide +kernel
theorem dX11_near_37 : decode cX11_near 37 = .ok (.iconst 0, 1) := by decide +kernel
theorem dX11_near_38 : decode cX11_near 38 = .ok (.iaload, 1) := by decide +kernel
theorem dX11_near_39 : decode cX11_near 39 = .ok (.iconst 2, 1) := by decide +kernel
theorem dX11_near_40 : decode cX11_near 40 = .ok (.if_icmp .ne 7, 3) := by decide +kernel
theorem dX11_near_43 : decode cX11_near 43 = .ok (.iconst 2, 1) := by decide +kernel
theorem dX11_near_44 : decode cX11_near 44 = .ok (.goto 4, 3) := by decide +kernel
theorem dX11_near_47 : decode cX11_near 47 = .ok (.iconst 3, 1) := by decide +kernel
theorem dX11_near_48 : decode cX11_near 48 = .ok (.istore_n 3, 1) := by decide +kernel
theorem dX11_near_49 : decode cX11_near 49 = .ok (.ldc 193, 2) := by decide +kernel
theorem dX11_near_51 : decode cX11_near 51 = .ok (.istore 4, 2) := by decide +kernel
theorem dX11_near_53 : decode cX11_near 53 = .ok (.aload_n 0, 1) := by decide +kernel
theorem dX11_near_54 : decode cX11_near 54 = .ok (.iload_n 3, 1) := by decide +kernel
theorem dX11_near_55 : decode cX11_near 55 = .ok (.iload_n 2, 1) := by decide +kernel
theorem dX11_near_56 : decode cX11_near 56 = .ok (.iconst 1, 1) := by decide +kernel
theorem dX11_near_57 : decode cX11_near 57 = .ok (.invokevirtual 181, 3) := by decide +kernel
theorem dX11_near_60 : decode cX11_near 60 = .ok (.istore 5, 2) := by decide +kernel
theorem dX11_near_62 : decode cX11_near 62 = .ok (.iload 5, 2) := by decide +kernel
theorem dX11_near_64 : decode cX11_near 64 = .ok (.ifCond .eq 62, 3) := by decide +kernel
theorem dX11_near_67 : decode cX11_near 67 = .ok (.aload_n 0, 1) := by decide +kernel
theorem dX11_near_68 : decode cX11_near 68 = .ok (.getfield 41, 3) := by decide +kernel
theorem dX11_near_71 : decode cX11_near 71 = .ok (.iload_n 3, 1) := by decide +kernel
theorem dX11_near_72 : decode cX11_near 72 = .ok (.iaload, 1) := by decide +kernel
theorem dX11_near_73 : decode cX11_near 73 = .ok (.iload_n 1, 1) := by decide +kernel
theorem dX11_near_74 : decode cX11_near 74 = .ok (.if_icmp .le 14, 3) := by decide +kernel
theorem dX11_near_77 : decode cX11_near 77 = .ok (.aload_n 0, 1) := by decide +kernel
theorem dX11_near_78 : decode cX11_near 78 = .ok (.getfield 41, 3) := by decide +kernel
theorem dX11_near_81 : decode cX11_near 81 = .ok (.iload_n 3, 1) := by decide +kernel
theorem dX11_near_82 : decode cX11_near 82 = .ok (.iaload, 1) := by decide +kernel
theorem dX11_near_83 : decode cX11_near 83 = .ok (.iload_n 1, 1) := by decide +kernel
theorem dX11_near_84 : decode cX11_near 84 = .ok (.isub, 1) := by decide +kernel
theorem dX11_near_85 : decode cX11_near 85 = .ok (.goto 11, 3) := by decide +kernel
theorem dX11_near_88 : decode cX11_near 88 = .ok (.iload_n 1, 1) := by decide +kernel
theorem dX11_near_89 : decode cX11_near 89 = .ok (.aload_n 0, 1) := by decide +kernel
theorem dX11_near_90 : decode cX11_near 90 = .ok (.getfield 41, 3) := by decide +kernel
theorem dX11_near_93 : decode cX11_near 93 = .ok (.iload_n 3, 1) := by decide +kernel
theorem dX11_near_94 : decode cX11_near 94 = .ok (.iaload, 1) := by decide +kernel
theorem dX11_near_95 : decode cX11_near 95 = .ok (.isub, 1) := by decide +kernel
theorem dX11_near_96 : decode cX11_near 96 = .ok (.istore 6, 2) := by decide +kernel
theorem dX11_near_98 : decode cX11_near 98 = .ok (.iload 6, 2) := by decide +kernel
theorem dX11_near_100 : decode cX11_near 100 = .ok (.iload 4, 2) := by decide +kernel
theorem dX11_near_102 : decode cX11_near 102 = .ok (.if_icmp .ge 12, 3) := by decide +kernel
theorem dX11_near_105 : decode cX11_near 105 = .ok (.iload 6, 2) := by decide +kernel
theorem dX11_near_107 : decode cX11_near 107 = .ok (.istore 4, 2) := by decide +kernel
theorem dX11_near_109 : decode cX11_near 109 = .ok (.aload_n 0, 1) := by decide +kernel
theorem dX11_near_110 : decode cX11_near 110 = .ok (.iload_n 3, 1) := by decide +kernel
theorem dX11_near_111 : decode cX11_near 111 = .ok (.invokevirtual 185, 3) := by decide +kernel
theorem dX11_near_114 : decode cX11_near 114 = .ok (.aload_n 0, 1) := by decide +kernel
theorem dX11_near_115 : decode cX11_near 115 = .ok (.iload_n 3, 1) := by decide +kernel
theorem dX11_near_116 : decode cX11_near 116 = .ok (.iload_n 2, 1) := by decide +kernel
theorem dX11_near_117 : decode cX11_near 117 = .ok (.iconst 0, 1) := by decide +kernel
theorem dX11_near_118 : decode cX11_near 118 = .ok (.invokevirtual 181, 3) := by decide +kernel
theorem dX11_near_121 : decode cX11_near 121 = .ok (.istore 5, 2) := by decide +kernel
theorem dX11_near_123 : decode cX11_near 123 = .ok (.goto (-61), 3) := by decide +kernel
theorem dX11_near_126 : decode cX11_near 126 = .ok (.iconst 0, 1) := by decide +kernel
theorem dX11_near_127 : decode cX11_near 127 = .ok (.istore 6, 2) := by decide +kernel
theorem dX11_near_129 : decode cX11_near 129 = .ok (.iconst 0, 1) := by decide +kernel
theorem dX11_near_130 : decode cX11_near 130 = .ok (.istore 7, 2) := by decide +kernel
theorem dX11_near_132 : decode cX11_near 132 = .ok (.iload 7, 2) := by decide +kernel
theorem dX11_near_134 : decode cX11_near 134 = .ok (.iload_n 3, 1) := by decide +kernel
theorem dX11_near_135 : decode cX11_near 135 = .ok (.if_icmp .ge 24, 3) := by decide +kernel
theorem dX11_near_138 : decode cX11_near 138 = .ok (.bipush 10, 2) := by decide +kernel
theorem dX11_near_140 : decode cX11_near 140 = .ok (.iload 6, 2) := by decide +kernel
theorem dX11_near_142 : decode cX11_near 142 = .ok (.imul, 1) := by decide +kernel
theorem dX11_near_143 : decode cX11_near 143 = .ok (.aload_n 0, 1) := by decide +kernel
theorem dX11_near_144 : decode cX11_near 144 = .ok (.getfield 44, 3) := by decide +kernel
theorem dX11_near_147 : decode cX11_near 147 = .ok (.iload 7, 2) := by decide +kernel
theorem dX11_near_149 : decode cX11_near 149 = .ok (.iaload, 1) := by decide +kernel
theorem dX11_near_150 : decode cX11_near 150 = .ok (.iadd, 1) := by decide +kernel
theorem dX11_near_151 : decode cX11_near 151 = .ok (.istore 6, 2) := by decide +kernel
theorem dX11_near_153 : decode cX11_near 153 = .ok (.iinc 7 1, 3) := by decide +kernel
theorem dX11_near_156 : decode cX11_near 156 = .ok (.goto (-24), 3) := by decide +kernel
theorem dX11_near_159 : decode cX11_near 159 = .ok (.aload_n 0, 1) := by decide +kernel
theorem dX11_near_160 : decode cX11_near 160 = .ok (.iload 6, 2) := by decide +kernel
theorem dX11_near_162 : decode cX11_near 162 = .ok (.putfield 60, 3) := by decide +kernel
theorem dX11_near_165 : decode cX11_near 165 = .ok (.iload 4, 2) := by decide +kernel
theorem dX11_near_167 : decode cX11_near 167 = .ok (.ireturn, 1) := by decide +kernel
theorem dX11_againstPairs_0 : decode cX11_againstPairs 0 = .ok (.aload_n 0, 1) := by decide +kernel
theorem dX11_againstPairs_1 : decode cX11_againstPairs 1 = .ok (.getfield 13, 3) := by decide +kernel
theorem dX11_againstPairs_4 : decode cX11_againstPairs 4 = .ok (.iload_n 1, 1) := by decide +kernel
theorem dX11_againstPairs_5 : decode cX11_againstPairs 5 = .ok (.iaload, 1) := by decide +kernel
theorem dX11_againstPairs_6 : decode cX11_againstPairs 6 = .ok (.ifCond .ge 9, 3) := by decide +kernel
theorem dX11_againstPairs_9 : decode cX11_againstPairs 9 = .ok (.aload_n 0, 1) := by decide +kernel
theorem dX11_againstPairs_10 : decode cX11_againstPairs 10 = .ok (.iconst 1, 1) := by decide +kernel
theorem dX11_againstPairs_11 : decode cX11_againstPairs 11 = .ok (.invokevirtual 80, 3) := by decide +kernel
theorem dX11_againstPairs_14 : decode cX11_againstPairs 14 = .ok (.ireturn, 1) := by decide +kernel
theorem dX11_againstPairs_15 : decode cX11_againstPairs 15 = .ok (.aload_n 0, 1) := by decide +kernel
theorem dX11_againstPairs_16 : decode cX11_againstPairs 16 = .ok (.getfield 13, 3) := by decide +kernel
theorem dX11_againstPairs_19 : decode cX11_againstPairs 19 = .ok (.iload_n 1, 1) := by decide +kernel
theorem dX11_againstPairs_20 : decode cX11_againstPairs 20 = .ok (.iaload, 1) := by decide +kernel
theorem dX11_againstPairs_21 : decode cX11_againstPairs 21 = .ok (.iconst 2, 1) := by decide +kernel
theorem dX11_againstPairs_22 : decode cX11_againstPairs 22 = .ok (.irem, 1) := by decide +kernel
theorem dX11_againstPairs_23 : decode cX11_againstPairs 23 = .ok (.iconst 1, 1) := by decide +kernel
theorem dX11_againstPairs_24 : decode cX11_againstPairs 24 = .ok (.if_icmp .ne 9, 3) := by decide +kernel
theorem dX11_againstPairs_27 : decode cX11_againstPairs 27 = .ok (.aload_n 0, 1) := by decide +kernel
theorem dX11_againstPairs_28 : decode cX11_againstPairs 28 = .ok (.iconst 5, 1) := by decide +kernel
theorem dX11_againstPairs_29 : decode cX11_againstPairs 29 = .ok (.invokevirtual 80, 3) := by decide +kernel
theorem dX11_againstPairs_32 : decode cX11_againstPairs 32 = .ok (.ireturn, 1) := by decide +kernel
theorem dX11_againstPairs_33 : decode cX11_againstPairs 33 = .ok (.iconst 1, 1) := by decide +kernel
theorem dX11_againstPairs_34 : decode cX11_againstPairs 34 = .ok (.istore_n 2, 1) := by decide +kernel
theorem dX11_againstPairs_35 : decode cX11_againstPairs 35 = .ok (.iconst 0, 1) := by decide +kernel
theorem dX11_againstPairs_36 : decode cX11_againstPairs 36 = .ok (.istore_n 3, 1) := by decide +kernel
theorem dX11_againstPairs_37 : decode cX11_againstPairs 37 = .ok (.iload_n 3, 1) := by decide +kernel
theorem dX11_againstPairs_38 : decode cX11_againstPairs 38 = .ok (.aload_n 0, 1) := by decide +kernel
theorem dX11_againstPairs_39 : decode cX11_againstPairs 39 = .ok (.getfield 13, 3) := by decide +kernel
theorem dX11_againstPairs_42 : decode cX11_againstPairs 42 = .ok (.iload_n 1, 1) := by decide +kernel
theorem dX11_againstPairs_43 : decode cX11_againstPairs 43 = .ok (.iaload, 1) := by decide +kernel
theorem dX11_againstPairs_44 : decode cX11_againstPairs 44 = .ok (.if_icmp .ge 60, 3) := by decide +kernel
theorem dX11_againstPairs_47 : decode cX11_againstPairs 47 = .ok (.iload_n 2, 1) := by decide +kernel
theorem dX11_againstPairs_48 : decode cX11_againstPairs 48 = .ok (.ifCond .eq 48, 3) := by decide +kernel
theorem dX11_againstPairs_51 : decode cX11_againstPairs 51 = .ok (.aload_n 0, 1) := by decide +kernel
theorem dX11_againstPairs_52 : decode cX11_againstPairs 52 = .ok (.getfield 16, 3) := by decide +kernel
theorem dX11_againstPairs_55 : decode cX11_againstPairs 55 = .ok (.bipush 40, 2) := by decide +kernel
theorem dX11_againstPairs_57 : decode cX11_againstPairs 57 = .ok (.iload_n 1, 1) := by decide +kernel
theorem dX11_againstPairs_58 : decode cX11_againstPairs 58 = .ok (.imul, 1) := by decide +kernel
theorem dX11_againstPairs_59 : decode cX11_againstPairs 59 = .ok (.iload_n 3, 1) := by decide +kernel
theorem dX11_againstPairs_60 : decode cX11_againstPairs 60 = .ok (.iadd, 1) := by decide +kernel
theorem dX11_againstPairs_61 : decode cX11_againstPairs 61 = .ok (.iaload, 1) := by decide +kernel
theorem dX11_againstPairs_62 : decode cX11_againstPairs 62 = .ok (.invokestatic 151, 3) := by decide +kernel
theorem dX11_againstPairs_65 : decode cX11_againstPairs 65 = .ok (.ifCond .eq 31, 3) := by decide +kernel
theorem dX11_againstPairs_68 : decode cX11_againstPairs 68 = .ok (.aload_n 0, 1) := by decide +kernel
theorem dX11_againstPairs_69 : decode cX11_againstPairs 69 = .ok (.getfield 16, 3) := by decide +kernel
theorem dX11_againstPairs_72 : decode cX11_againstPairs 72 = .ok (.bipush 40, 2) := by decide +kernel
theorem dX11_againstPairs_74 : decode cX11_againstPairs 74 = .ok (.iload_n 1, 1) := by decide +kernel
theorem dX11_againstPairs_75 : decode cX11_againstPairs 75 = .ok (.imul, 1) := by decide +kernel
theorem dX11_againstPairs_76 : decode cX11_againstPairs 76 = .ok (.iload_n 3, 1) := by decide +kernel
theorem dX11_againstPairs_77 : decode cX11_againstPairs 77 = .ok (.iadd, 1) := by decide +kernel
theorem dX11_againstPairs_78 : decode cX11_againstPairs 78 = .ok (.iconst 1, 1) := by decide +kernel
theorem dX11_againstPairs_79 : decode cX11_againstPairs 79 = .ok (.iadd, 1) := by decide +kernel
theorem dX11_againstPairs_80 : decode cX11_againstPairs 80 = .ok (.iaload, 1) := by decide +kernel
theorem dX11_againstPairs_81 : decode cX11_againstPairs 81 = .ok (.i2l, 1) := by decide +kernel
theorem dX11_againstPairs_82 : decode cX11_againstPairs 82 = .ok (.lconst 0, 1) := by decide +kernel
theorem dX11_againstPairs_83 : decode cX11_againstPairs 83 = .ok (.ldc2_w 194, 3) := by decide +kernel
theorem dX11_againstPairs_86 : decode cX11_againstPairs 86 = .ok (.invokestatic 68, 3) := by decide +kernel
theorem dX11_againstPairs_89 : decode cX11_againstPairs 89 = .ok (.ifCond .eq 7, 3) := by decide +kernel
theorem dX11_againstPairs_92 : decode cX11_againstPairs 92 = .ok (.iconst 1, 1) := by decide +kernel
theorem dX11_againstPairs_93 : decode cX11_againstPairs 93 = .ok (.goto 4, 3) := by decide +kernel
theorem dX11_againstPairs_96 : decode cX11_againstPairs 96 = .ok (.iconst 0, 1) := by decide +kernel
theorem dX11_againstPairs_97 : decode cX11_againstPairs 97 = .ok (.istore_n 2, 1) := by decide +kernel
theorem dX11_againstPairs_98 : decode cX11_againstPairs 98 = .ok (.iinc 3 2, 3) := by decide +kernel
theorem dX11_againstPairs_101 : decode cX11_againstPairs 101 = .ok (.goto (-64), 3) := by decide +kernel
theorem dX11_againstPairs_104 : decode cX11_againstPairs 104 = .ok (.iload_n 2, 1) := by decide +kernel
theorem dX11_againstPairs_105 : decode cX11_againstPairs 105 = .ok (.ifCond .eq 7, 3) := by decide +kernel
theorem dX11_againstPairs_108 : decode cX11_againstPairs 108 = .ok (.iconst 0, 1) := by decide +kernel
theorem dX11_againstPairs_109 : decode cX11_againstPairs 109 = .ok (.goto 8, 3) := by decide +kernel
theorem dX11_againstPairs_112 : decode cX11_againstPairs 112 = .ok (.aload_n 0, 1) := by decide +kernel
theorem dX11_againstPairs_113 : decode cX11_againstPairs 113 = .ok (.iconst 3, 1) := by decide +kernel
theorem dX11_againstPairs_114 : decode cX11_againstPairs 114 = .ok (.invokevirtual 80, 3) := by decide +kernel
theorem dX11_againstPairs_117 : decode cX11_againstPairs 117 = .ok (.ireturn, 1) := by decide +kernel
theorem dX11_showedSo_0 : decode cX11_showedSo 0 = .ok (.iconst 1, 1) := by decide +kernel
theorem dX11_showedSo_1 : decode cX11_showedSo 1 = .ok (.istore 5, 2) := by decide +kernel
theorem dX11_showedSo_3 : decode cX11_showedSo 3 = .ok (.iconst 0, 1) := by decide +kernel
theorem dX11_showedSo_4 : decode cX11_showedSo 4 = .ok (.istore 6, 2) := by decide +kernel
theorem dX11_showedSo_6 : decode cX11_showedSo 6 = .ok (.iload 6, 2) := by decide +kernel
theorem dX11_showedSo_8 : decode cX11_showedSo 8 = .ok (.aload_n 0, 1) := by decide +kernel
theorem dX11_showedSo_9 : decode cX11_showedSo 9 = .ok (.getfield 13, 3) := by decide +kernel
theorem dX11_showedSo_12 : decode cX11_showedSo 12 = .ok (.iload 4, 2) := by decide +kernel
theorem dX11_showedSo_14 : decode cX11_showedSo 14 = .ok (.iaload, 1) := by decide +kernel
theorem dX11_showedSo_15 : decode cX11_showedSo 15 = .ok (.if_icmp .ge 58, 3) := by decide +kernel
theorem dX11_showedSo_18 : decode cX11_showedSo 18 = .ok (.iload 5, 2) := by decide +kernel
theorem dX11_showedSo_20 : decode cX11_showedSo 20 = .ok (.ifCond .eq 44, 3) := by decide +kernel
theorem dX11_showedSo_23 : decode cX11_showedSo 23 = .ok (.iload_n 1, 1) := by decide +kernel
theorem dX11_showedSo_24 : decode cX11_showedSo 24 = .ok (.iload_n 2, 1) := by decide +kernel
theorem dX11_showedSo_25 : decode cX11_showedSo 25 = .ok (.iload_n 3, 1) := by decide +kernel
theorem dX11_showedSo_26 : decode cX11_showedSo 26 = .ok (.aload_n 0, 1) := by decide +kernel
theorem dX11_showedSo_27 : decode cX11_showedSo 27 = .ok (.getfield 16, 3) := by decide +kernel
theorem dX11_showedSo_30 : decode cX11_showedSo 30 = .ok (.bipush 40, 2) := by decide +kernel
theorem dX11_showedSo_32 : decode cX11_showedSo 32 = .ok (.iload 4, 2) := by decide +kernel
theorem dX11_showedSo_34 : decode cX11_showedSo 34 = .ok (.imul, 1) := by decide +kernel
theorem dX11_showedSo_35 : decode cX11_showedSo 35 = .ok (.iload 6, 2) := by decide +kernel
theorem dX11_showedSo_37 : decode cX11_showedSo 37 = .ok (.iadd, 1) := by decide +kernel
theorem dX11_showedSo_38 : decode cX11_showedSo 38 = .ok (.iaload, 1) := by decide +kernel
theorem dX11_showedSo_39 : decode cX11_showedSo 39 = .ok (.invokestatic 126, 3) := by decide +kernel
theorem dX11_showedSo_42 : decode cX11_showedSo 42 = .ok (.aload_n 0, 1) := by decide +kernel
theorem dX11_showedSo_43 : decode cX11_showedSo 43 = .ok (.getfield 16, 3) := by decide +kernel
theorem dX11_showedSo_46 : decode cX11_showedSo 46 = .ok (.bipush 40, 2) := by decide +kernel
theorem dX11_showedSo_48 : decode cX11_showedSo 48 = .ok (.iload 4, 2) := by decide +kernel
theorem dX11_showedSo_50 : decode cX11_showedSo 50 = .ok (.imul, 1) := by decide +kernel
theorem dX11_showedSo_51 : decode cX11_showedSo 51 = .ok (.iload 6, 2) := by decide +kernel
theorem dX11_showedSo_53 : decode cX11_showedSo 53 = .ok (.iadd, 1) := by decide +kernel
theorem dX11_showedSo_54 : decode cX11_showedSo 54 = .ok (.iconst 1, 1) := by decide +kernel
theorem dX11_showedSo_55 : decode cX11_showedSo 55 = .ok (.iadd, 1) := by decide +kernel
theorem dX11_showedSo_56 : decode cX11_showedSo 56 = .ok (.iaload, 1) := by decide +kernel
theorem dX11_showedSo_57 : decode cX11_showedSo 57 = .ok (.if_icmp .ne 7, 3) := by decide +kernel
theorem dX11_showedSo_60 : decode cX11_showedSo 60 = .ok (.iconst 1, 1) := by decide +kernel
theorem dX11_showedSo_61 : decode cX11_showedSo 61 = .ok (.goto 4, 3) := by decide +kernel
theorem dX11_showedSo_64 : decode cX11_showedSo 64 = .ok (.iconst 0, 1) := by decide +kernel
theorem dX11_showedSo_65 : decode cX11_showedSo 65 = .ok (.istore 5, 2) := by decide +kernel
theorem dX11_showedSo_67 : decode cX11_showedSo 67 = .ok (.iinc 6 2, 3) := by decide +kernel
theorem dX11_showedSo_70 : decode cX11_showedSo 70 = .ok (.goto (-64), 3) := by decide +kernel
theorem dX11_showedSo_73 : decode cX11_showedSo 73 = .ok (.iload 5, 2) := by decide +kernel
theorem dX11_showedSo_75 : decode cX11_showedSo 75 = .ok (.ireturn, 1) := by decide +kernel
theorem dX11_digits_0 : decode cX11_digits 0 = .ok (.aload_n 0, 1) := by decide +kernel
theorem dX11_digits_1 : decode cX11_digits 1 = .ok (.iload_n 1, 1) := by decide +kernel
theorem dX11_digits_2 : decode cX11_digits 2 = .ok (.invokevirtual 133, 3) := by decide +kernel
theorem dX11_digits_5 : decode cX11_digits 5 = .ok (.ifCond .eq 10, 3) := by decide +kernel
theorem dX11_digits_8 : decode cX11_digits 8 = .ok (.iload_n 2, 1) := by decide +kernel
theorem dX11_digits_9 : decode cX11_digits 9 = .ok (.invokestatic 76, 3) := by decide +kernel
theorem dX11_digits_12 : decode cX11_digits 12 = .ok (.ifCond .ne 5, 3) := by decide +kernel
theorem dX11_digits_15 : decode cX11_digits 15 = .ok (.iconst (-1), 1) := by decide +kernel
theorem dX11_digits_16 : decode cX11_digits 16 = .ok (.ireturn, 1) := by decide +kernel
theorem dX11_digits_17 : decode cX11_digits 17 = .ok (.aload_n 0, 1) := by decide +kernel
theorem dX11_digits_18 : decode cX11_digits 18 = .ok (.iload_n 2, 1) := by decide +kernel
theorem dX11_digits_19 : decode cX11_digits 19 = .ok (.invokevirtual 196, 3) := by decide +kernel
theorem dX11_digits_22 : decode cX11_digits 22 = .ok (.istore_n 3, 1) := by decide +kernel
theorem dX11_digits_23 : decode cX11_digits 23 = .ok (.iload_n 3, 1) := by decide +kernel
theorem dX11_digits_24 : decode cX11_digits 24 = .ok (.ifCond .eq 5, 3) := by decide +kernel
theorem dX11_digits_27 : decode cX11_digits 27 = .ok (.iload_n 3, 1) := by decide +kernel
theorem dX11_digits_28 : decode cX11_digits 28 = .ok (.ireturn, 1) := by decide +kernel
theorem dX11_digits_29 : decode cX11_digits 29 = .ok (.iconst 0, 1) := by decide +kernel
theorem dX11_digits_30 : decode cX11_digits 30 = .ok (.istore 4, 2) := by decide +kernel
theorem dX11_digits_32 : decode cX11_digits 32 = .ok (.iconst 0, 1) := by decide +kernel
theorem dX11_digits_33 : decode cX11_digits 33 = .ok (.istore 5, 2) := by decide +kernel
theorem dX11_digits_35 : decode cX11_digits 35 = .ok (.iload 5, 2) := by decide +kernel
theorem dX11_digits_37 : decode cX11_digits 37 = .ok (.bipush 10, 2) := by decide +kernel
theorem dX11_digits_39 : decode cX11_digits 39 = .ok (.if_icmp .ge 50, 3) := by decide +kernel
theorem dX11_digits_42 : decode cX11_digits 42 = .ok (.iload 4, 2) := by decide +kernel
theorem dX11_digits_44 : decode cX11_digits 44 = .ok (.aload_n 0, 1) := by decide +kernel
theorem dX11_digits_45 : decode cX11_digits 45 = .ok (.aload_n 0, 1) := by decide +kernel
theorem dX11_digits_46 : decode cX11_digits 46 = .ok (.getfield 7, 3) := by decide +kernel
theorem dX11_digits_49 : decode cX11_digits 49 = .ok (.bipush 10, 2) := by decide +kernel
theorem dX11_digits_51 : decode cX11_digits 51 = .ok (.iload_n 1, 1) := by decide +kernel
theorem dX11_digits_52 : decode cX11_digits 52 = .ok (.iadd, 1) := by decide +kernel
theorem dX11_digits_53 : decode cX11_digits 53 = .ok (.iaload, 1) := by decide +kernel
theorem dX11_digits_54 : decode cX11_digits 54 = .ok (.iload 5, 2) := by decide +kernel
theorem dX11_digits_56 : decode cX11_digits 56 = .ok (.aload_n 0, 1) := by decide +kernel
theorem dX11_digits_57 : decode cX11_digits 57 = .ok (.getfield 7, 3) := by decide +kernel
theorem dX11_digits_60 : decode cX11_digits 60 = .ok (.bipush 24, 2) := by decide +kernel
theorem dX11_digits_62 : decode cX11_digits 62 = .ok (.iload_n 1, 1) := by decide +kernel
theorem dX11_digits_63 : decode cX11_digits 63 = .ok (.iadd, 1) := by decide +kernel
theorem dX11_digits_64 : decode cX11_digits 64 = .ok (.iaload, 1) := by decide +kernel
theorem dX11_digits_65 : decode cX11_digits 65 = .ok (.iload_n 2, 1) := by decide +kernel
theorem dX11_digits_66 : decode cX11_digits 66 = .ok (.invokevirtual 199, 3) := by decide +kernel
theorem dX11_digits_69 : decode cX11_digits 69 = .ok (.ifCond .eq 10, 3) := by decide +kernel
theorem dX11_digits_72 : decode cX11_digits 72 = .ok (.iconst 1, 1) := by decide +kernel
theorem dX11_digits_73 : decode cX11_digits 73 = .ok (.iload 5, 2) := by decide +kernel
theorem dX11_digits_75 : decode cX11_digits 75 = .ok (.ishl, 1) := by decide +kernel
theorem dX11_digits_76 : decode cX11_digits 76 = .ok (.goto 4, 3) := by decide +kernel
theorem dX11_digits_79 : decode cX11_digits 79 = .ok (.iconst 0, 1) := by decide +kernel
theorem dX11_digits_80 : decode cX11_digits 80 = .ok (.ior, 1) := by decide +kernel
theorem dX11_digits_81 : decode cX11_digits 81 = .ok (.istore 4, 2) := by decide +kernel
theorem dX11_digits_83 : decode cX11_digits 83 = .ok (.iinc 5 1, 3) := by decide +kernel
theorem dX11_digits_86 : decode cX11_digits 86 = .ok (.goto (-51), 3) := by decide +kernel
theorem dX11_digits_89 : decode cX11_digits 89 = .ok (.iload 4, 2) := by decide +kernel
theorem dX11_digits_91 : decode cX11_digits 91 = .ok (.ireturn, 1) := by decide +kernel
theorem dX11_kindsOf_0 : decode cX11_kindsOf 0 = .ok (.iconst 0, 1) := by decide +kernel
theorem dX11_kindsOf_1 : decode cX11_kindsOf 1 = .ok (.istore_n 3, 1) := by decide +kernel
theorem dX11_kindsOf_2 : decode cX11_kindsOf 2 = .ok (.iconst 0, 1) := by decide +kernel
theorem dX11_kindsOf_3 : decode cX11_kindsOf 3 = .ok (.istore 4, 2) := by decide +kernel
theorem dX11_kindsOf_5 : decode cX11_kindsOf 5 = .ok (.iload 4, 2) := by decide +kernel
theorem dX11_kindsOf_7 : decode cX11_kindsOf 7 = .ok (.iconst 5, 1) := by decide +kernel
theorem dX11_kindsOf_8 : decode cX11_kindsOf 8 = .ok (.if_icmp .gt 44, 3) := by decide +kernel
theorem dX11_kindsOf_11 : decode cX11_kindsOf 11 = .ok (.iload_n 3, 1) := by decide +kernel
theorem dX11_kindsOf_12 : decode cX11_kindsOf 12 = .ok (.aload_n 0, 1) := by decide +kernel
theorem dX11_kindsOf_13 : decode cX11_kindsOf 13 = .ok (.iload 4, 2) := by decide +kernel
theorem dX11_kindsOf_15 : decode cX11_kindsOf 15 = .ok (.aload_n 0, 1) := by decide +kernel
theorem dX11_kindsOf_16 : decode cX11_kindsOf 16 = .ok (.iload_n 1, 1) := by decide +kernel
theorem dX11_kindsOf_17 : decode cX11_kindsOf 17 = .ok (.invokevirtual 123, 3) := by decide +kernel
theorem dX11_kindsOf_20 : decode cX11_kindsOf 20 = .ok (.aload_n 0, 1) := by decide +kernel
theorem dX11_kindsOf_21 : decode cX11_kindsOf 21 = .ok (.getfield 7, 3) := by decide +kernel
theorem dX11_kindsOf_24 : decode cX11_kindsOf 24 = .ok (.bipush 24, 2) := by decide +kernel
theorem dX11_kindsOf_26 : decode cX11_kindsOf 26 = .ok (.iload_n 1, 1) := by decide +kernel
theorem dX11_kindsOf_27 : decode cX11_kindsOf 27 = .ok (.iadd, 1) := by decide +kernel
theorem dX11_kindsOf_28 : decode cX11_kindsOf 28 = .ok (.iaload, 1) := by decide +kernel
theorem dX11_kindsOf_29 : decode cX11_kindsOf 29 = .ok (.iload_n 2, 1) := by decide +kernel
theorem dX11_kindsOf_30 : decode cX11_kindsOf 30 = .ok (.invokevirtual 199, 3) := by decide +kernel
theorem dX11_kindsOf_33 : decode cX11_kindsOf 33 = .ok (.ifCond .eq 10, 3) := by decide +kernel
theorem dX11_kindsOf_36 : decode cX11_kindsOf 36 = .ok (.iconst 1, 1) := by decide +kernel
theorem dX11_kindsOf_37 : decode cX11_kindsOf 37 = .ok (.iload 4, 2) := by decide +kernel
theorem dX11_kindsOf_39 : decode cX11_kindsOf 39 = .ok (.ishl, 1) := by decide +kernel
theorem dX11_kindsOf_40 : decode cX11_kindsOf 40 = .ok (.goto 4, 3) := by decide +kernel
theorem dX11_kindsOf_43 : decode cX11_kindsOf 43 = .ok (.iconst 0, 1) := by decide +kernel
theorem dX11_kindsOf_44 : decode cX11_kindsOf 44 = .ok (.ior, 1) := by decide +kernel
theorem dX11_kindsOf_45 : decode cX11_kindsOf 45 = .ok (.istore_n 3, 1) := by decide +kernel
theorem dX11_kindsOf_46 : decode cX11_kindsOf 46 = .ok (.iinc 4 1, 3) := by decide +kernel
theorem dX11_kindsOf_49 : decode cX11_kindsOf 49 = .ok (.goto (-44), 3) := by decide +kernel
theorem dX11_kindsOf_52 : decode cX11_kindsOf 52 = .ok (.iload_n 3, 1) := by decide +kernel
theorem dX11_kindsOf_53 : decode cX11_kindsOf 53 = .ok (.ireturn, 1) := by decide +kernel
theorem dX11_kinds_0 : decode cX11_kinds 0 = .ok (.aload_n 0, 1) := by decide +kernel
theorem dX11_kinds_1 : decode cX11_kinds 1 = .ok (.iload_n 1, 1) := by decide +kernel
theorem dX11_kinds_2 : decode cX11_kinds 2 = .ok (.invokevirtual 133, 3) := by decide +kernel
theorem dX11_kinds_5 : decode cX11_kinds 5 = .ok (.ifCond .eq 10, 3) := by decide +kernel
theorem dX11_kinds_8 : decode cX11_kinds 8 = .ok (.iload_n 2, 1) := by decide +kernel
theorem dX11_kinds_9 : decode cX11_kinds 9 = .ok (.invokestatic 76, 3) := by decide +kernel
theorem dX11_kinds_12 : decode cX11_kinds 12 = .ok (.ifCond .ne 5, 3) := by decide +kernel
theorem dX11_kinds_15 : decode cX11_kinds 15 = .ok (.iconst (-1), 1) := by decide +kernel
theorem dX11_kinds_16 : decode cX11_kinds 16 = .ok (.ireturn, 1) := by decide +kernel
theorem dX11_kinds_17 : decode cX11_kinds 17 = .ok (.aload_n 0, 1) := by decide +kernel
theorem dX11_kinds_18 : decode cX11_kinds 18 = .ok (.iload_n 2, 1) := by decide +kernel
theorem dX11_kinds_19 : decode cX11_kinds 19 = .ok (.invokevirtual 196, 3) := by decide +kernel
theorem dX11_kinds_22 : decode cX11_kinds 22 = .ok (.istore_n 3, 1) := by decide +kernel
theorem dX11_kinds_23 : decode cX11_kinds 23 = .ok (.iload_n 3, 1) := by decide +kernel
theorem dX11_kinds_24 : decode cX11_kinds 24 = .ok (.ifCond .eq 7, 3) := by decide +kernel
theorem dX11_kinds_27 : decode cX11_kinds 27 = .ok (.iload_n 3, 1) := by decide +kernel
theorem dX11_kinds_28 : decode cX11_kinds 28 = .ok (.goto 9, 3) := by decide +kernel
theorem dX11_kinds_31 : decode cX11_kinds 31 = .ok (.aload_n 0, 1) := by decide +kernel
theorem dX11_kinds_32 : decode cX11_kinds 32 = .ok (.iload_n 1, 1) := by decide +kernel
theorem dX11_kinds_33 : decode cX11_kinds 33 = .ok (.iload_n 2, 1) := by decide +kernel
theorem dX11_kinds_34 : decode cX11_kinds 34 = .ok (.invokevirtual 203, 3) := by decide +kernel
theorem dX11_kinds_37 : decode cX11_kinds 37 = .ok (.ireturn, 1) := by decide +kernel
theorem dX11_test_0 : decode cX11_test 0 = .ok (.aload_n 0, 1) := by decide +kernel
theorem dX11_test_1 : decode cX11_test 1 = .ok (.iload_n 1, 1) := by decide +kernel
theorem dX11_test_2 : decode cX11_test 2 = .ok (.invokevirtual 133, 3) := by decide +kernel
theorem dX11_test_5 : decode cX11_test 5 = .ok (.ifCond .eq 10, 3) := by decide +kernel
theorem dX11_test_8 : decode cX11_test 8 = .ok (.iload_n 2, 1) := by decide +kernel
theorem dX11_test_9 : decode cX11_test 9 = .ok (.invokestatic 76, 3) := by decide +kernel
theorem dX11_test_12 : decode cX11_test 12 = .ok (.ifCond .ne 5, 3) := by decide +kernel
theorem dX11_test_15 : decode cX11_test 15 = .ok (.iconst (-1), 1) := by decide +kernel
theorem dX11_test_16 : decode cX11_test 16 = .ok (.ireturn, 1) := by decide +kernel
theorem dX11_test_17 : decode cX11_test 17 = .ok (.aload_n 0, 1) := by decide +kernel
theorem dX11_test_18 : decode cX11_test 18 = .ok (.iload_n 2, 1) := by decide +kernel
theorem dX11_test_19 : decode cX11_test 19 = .ok (.invokevirtual 196, 3) := by decide +kernel
theorem dX11_test_22 : decode cX11_test 22 = .ok (.istore_n 3, 1) := by decide +kernel
theorem dX11_test_23 : decode cX11_test 23 = .ok (.iload_n 3, 1) := by decide +kernel
theorem dX11_test_24 : decode cX11_test 24 = .ok (.ifCond .eq 5, 3) := by decide +kernel
theorem dX11_test_27 : decode cX11_test 27 = .ok (.iload_n 3, 1) := by decide +kernel
theorem dX11_test_28 : decode cX11_test 28 = .ok (.ireturn, 1) := by decide +kernel
theorem dX11_test_29 : decode cX11_test 29 = .ok (.aload_n 0, 1) := by decide +kernel
theorem dX11_test_30 : decode cX11_test 30 = .ok (.iload_n 1, 1) := by decide +kernel
theorem dX11_test_31 : decode cX11_test 31 = .ok (.iload_n 2, 1) := by decide +kernel
theorem dX11_test_32 : decode cX11_test 32 = .ok (.invokevirtual 203, 3) := by decide +kernel
theorem dX11_test_35 : decode cX11_test 35 = .ok (.istore 4, 2) := by decide +kernel
theorem dX11_test_37 : decode cX11_test 37 = .ok (.bipush (-9), 2) := by decide +kernel
theorem dX11_test_39 : decode cX11_test 39 = .ok (.istore 5, 2) := by decide +kernel
theorem dX11_test_41 : decode cX11_test 41 = .ok (.ldc 193, 2) := by decide +kernel
theorem dX11_test_43 : decode cX11_test 43 = .ok (.istore 6, 2) := by decide +kernel
theorem dX11_test_45 : decode cX11_test 45 = .ok (.iconst 1, 1) := by decide +kernel
theorem dX11_test_46 : decode cX11_test 46 = .ok (.istore 7, 2) := by decide +kernel
theorem dX11_test_48 : decode cX11_test 48 = .ok (.iload 7, 2) := by decide +kernel
theorem dX11_test_50 : decode cX11_test 50 = .ok (.bipush 10, 2) := by decide +kernel
theorem dX11_test_52 : decode cX11_test 52 = .ok (.if_icmp .ge 185, 3) := by decide +kernel
theorem dX11_test_55 : decode cX11_test 55 = .ok (.iload 4, 2) := by decide +kernel
theorem dX11_test_57 : decode cX11_test 57 = .ok (.ifCond .le 180, 3) := by decide +kernel
theorem dX11_test_60 : decode cX11_test 60 = .ok (.iconst 0, 1) := by decide +kernel
theorem dX11_test_61 : decode cX11_test 61 = .ok (.istore 8, 2) := by decide +kernel
theorem dX11_test_63 : decode cX11_test 63 = .ok (.iconst 0, 1) := by decide +kernel
theorem dX11_test_64 : decode cX11_test 64 = .ok (.istore 9, 2) := by decide +kernel
theorem dX11_test_66 : decode cX11_test 66 = .ok (.iload 9, 2) := by decide +kernel
theorem dX11_test_68 : decode cX11_test 68 = .ok (.iconst 5, 1) := by decide +kernel
theorem dX11_test_69 : decode cX11_test 69 = .ok (.if_icmp .gt 130, 3) := by decide +kernel
theorem dX11_test_72 : decode cX11_test 72 = .ok (.iconst 0, 1) := by decide +kernel
theorem dX11_test_73 : decode cX11_test 73 = .ok (.istore 10, 2) := by decide +kernel
theorem dX11_test_75 : decode cX11_test 75 = .ok (.iconst 0, 1) := by decide +kernel
theorem dX11_test_76 : decode cX11_test 76 = .ok (.istore 11, 2) := by decide +kernel
theorem dX11_test_78 : decode cX11_test 78 = .ok (.iload 11, 2) := by decide +kernel
theorem dX11_test_80 : decode cX11_test 80 = .ok (.iconst 5, 1) := by decide +kernel
theorem dX11_test_81 : decode cX11_test 81 = .ok (.if_icmp .gt 96, 3) := by decide +kernel
theorem dX11_test_84 : decode cX11_test 84 = .ok (.iload 4, 2) := by decide +kernel
theorem dX11_test_86 : decode cX11_test 86 = .ok (.iload 9, 2) := by decide +kernel
theorem dX11_test_88 : decode cX11_test 88 = .ok (.invokestatic 119, 3) := by decide +kernel
theorem dX11_test_91 : decode cX11_test 91 = .ok (.ifCond .eq 17, 3) := by decide +kernel
theorem dX11_test_94 : decode cX11_test 94 = .ok (.iload 4, 2) := by decide +kernel
theorem dX11_test_96 : decode cX11_test 96 = .ok (.iload 11, 2) := by decide +kernel
theorem dX11_test_98 : decode cX11_test 98 = .ok (.invokestatic 119, 3) := by decide +kernel
theorem dX11_test_101 : decode cX11_test 101 = .ok (.ifCond .eq 7, 3) := by decide +kernel
theorem dX11_test_104 : decode cX11_test 104 = .ok (.iconst 1, 1) := by decide +kernel
theorem dX11_test_105 : decode cX11_test 105 = .ok (.goto 4, 3) := by decide +kernel
theorem dX11_test_108 : decode cX11_test 108 = .ok (.iconst 0, 1) := by decide +kernel
theorem dX11_test_109 : decode cX11_test 109 = .ok (.istore 12, 2) := by decide +kernel
theorem dX11_test_111 : decode cX11_test 111 = .ok (.iload 10, 2) := by decide +kernel
theorem dX11_test_113 : decode cX11_test 113 = .ok (.iload 12, 2) := by decide +kernel
theorem dX11_test_115 : decode cX11_test 115 = .ok (.ifCond .eq 52, 3) := by decide +kernel
theorem dX11_test_118 : decode cX11_test 118 = .ok (.iload 9, 2) := by decide +kernel
theorem dX11_test_120 : decode cX11_test 120 = .ok (.aload_n 0, 1) := by decide +kernel
theorem dX11_test_121 : decode cX11_test 121 = .ok (.iload_n 1, 1) := by decide +kernel
theorem dX11_test_122 : decode cX11_test 122 = .ok (.invokevirtual 123, 3) := by decide +kernel
theorem dX11_test_125 : decode cX11_test 125 = .ok (.aload_n 0, 1) := by decide +kernel
theorem dX11_test_126 : decode cX11_test 126 = .ok (.getfield 7, 3) := by decide +kernel
theorem dX11_test_129 : decode cX11_test 129 = .ok (.bipush 24, 2) := by decide +kernel
theorem dX11_test_131 : decode cX11_test 131 = .ok (.iload_n 1, 1) := by decide +kernel
theorem dX11_test_132 : decode cX11_test 132 = .ok (.iadd, 1) := by decide +kernel
theorem dX11_test_133 : decode cX11_test 133 = .ok (.iaload, 1) := by decide +kernel
theorem dX11_test_134 : decode cX11_test 134 = .ok (.iload 7, 2) := by decide +kernel
theorem dX11_test_136 : decode cX11_test 136 = .ok (.invokestatic 126, 3) := by decide +kernel
theorem dX11_test_139 : decode cX11_test 139 = .ok (.iload 11, 2) := by decide +kernel
theorem dX11_test_141 : decode cX11_test 141 = .ok (.aload_n 0, 1) := by decide +kernel
theorem dX11_test_142 : decode cX11_test 142 = .ok (.iload_n 1, 1) := by decide +kernel
theorem dX11_test_143 : decode cX11_test 143 = .ok (.invokevirtual 123, 3) := by decide +kernel
theorem dX11_test_146 : decode cX11_test 146 = .ok (.aload_n 0, 1) := by decide +kernel
theorem dX11_test_147 : decode cX11_test 147 = .ok (.getfield 7, 3) := by decide +kernel
theorem dX11_test_150 : decode cX11_test 150 = .ok (.bipush 24, 2) := by decide +kernel
theorem dX11_test_152 : decode cX11_test 152 = .ok (.iload_n 1, 1) := by decide +kernel
theorem dX11_test_153 : decode cX11_test 153 = .ok (.iadd, 1) := by decide +kernel
theorem dX11_test_154 : decode cX11_test 154 = .ok (.iaload, 1) := by decide +kernel
theorem dX11_test_155 : decode cX11_test 155 = .ok (.iload 7, 2) := by decide +kernel
theorem dX11_test_157 : decode cX11_test 157 = .ok (.invokestatic 126, 3) := by decide +kernel
theorem dX11_test_160 : decode cX11_test 160 = .ok (.if_icmp .ne 7, 3) := by decide +kernel
theorem dX11_test_163 : decode cX11_test 163 = .ok (.iconst 1, 1) := by decide +kernel
theorem dX11_test_164 : decode cX11_test 164 = .ok (.goto 4, 3) := by decide +kernel
theorem dX11_test_167 : decode cX11_test 167 = .ok (.iconst 0, 1) := by decide +kernel
theorem dX11_test_168 : decode cX11_test 168 = .ok (.iadd, 1) := by decide +kernel
theorem dX11_test_169 : decode cX11_test 169 = .ok (.istore 10, 2) := by decide +kernel
theorem dX11_test_171 : decode cX11_test 171 = .ok (.iinc 11 1, 3) := by decide +kernel
theorem dX11_test_174 : decode cX11_test 174 = .ok (.goto (-96), 3) := by decide +kernel
theorem dX11_test_177 : decode cX11_test 177 = .ok (.iload 10, 2) := by decide +kernel
theorem dX11_test_179 : decode cX11_test 179 = .ok (.iload 8, 2) := by decide +kernel
theorem dX11_test_181 : decode cX11_test 181 = .ok (.if_icmp .le 8, 3) := by decide +kernel
theorem dX11_test_184 : decode cX11_test 184 = .ok (.iload 10, 2) := by decide +kernel
theorem dX11_test_186 : decode cX11_test 186 = .ok (.goto 5, 3) := by decide +kernel
theorem dX11_test_189 : decode cX11_test 189 = .ok (.iload 8, 2) := by decide +kernel
theorem dX11_test_191 : decode cX11_test 191 = .ok (.istore 8, 2) := by decide +kernel
theorem dX11_test_193 : decode cX11_test 193 = .ok (.iinc 9 1, 3) := by decide +kernel
theorem dX11_test_196 : decode cX11_test 196 = .ok (.goto (-130), 3) := by decide +kernel
theorem dX11_test_199 : decode cX11_test 199 = .ok (.iload 8, 2) := by decide +kernel
theorem dX11_test_201 : decode cX11_test 201 = .ok (.iload 6, 2) := by decide +kernel
theorem dX11_test_203 : decode cX11_test 203 = .ok (.if_icmp .ge 8, 3) := by decide +kernel
theorem dX11_test_206 : decode cX11_test 206 = .ok (.iload 7, 2) := by decide +kernel
theorem dX11_test_208 : decode cX11_test 208 = .ok (.goto 5, 3) := by decide +kernel
theorem dX11_test_211 : decode cX11_test 211 = .ok (.iload 5, 2) := by decide +kernel
theorem dX11_test_213 : decode cX11_test 213 = .ok (.istore 5, 2) := by decide +kernel
theorem dX11_test_215 : decode cX11_test 215 = .ok (.iload 8, 2) := by decide +kernel
theorem dX11_test_217 : decode cX11_test 217 = .ok (.iload 6, 2) := by decide +kernel
theorem dX11_test_219 : decode cX11_test 219 = .ok (.if_icmp .ge 8, 3) := by decide +kernel
theorem dX11_test_222 : decode cX11_test 222 = .ok (.iload 8, 2) := by decide +kernel
theorem dX11_test_224 : decode cX11_test 224 = .ok (.goto 5, 3) := by decide +kernel
theorem dX11_test_227 : decode cX11_test 227 = .ok (.iload 6, 2) := by decide +kernel
theorem dX11_test_229 : decode cX11_test 229 = .ok (.istore 6, 2) := by decide +kernel
theorem dX11_test_231 : decode cX11_test 231 = .ok (.iinc 7 1, 3) := by decide +kernel
theorem dX11_test_234 : decode cX11_test 234 = .ok (.goto (-186), 3) := by decide +kernel
theorem dX11_test_237 : decode cX11_test 237 = .ok (.iload 5, 2) := by decide +kernel
theorem dX11_test_239 : decode cX11_test 239 = .ok (.bipush (-9), 2) := by decide +kernel
theorem dX11_test_241 : decode cX11_test 241 = .ok (.if_icmp .ne 6, 3) := by decide +kernel
theorem dX11_test_244 : decode cX11_test 244 = .ok (.bipush (-9), 2) := by decide +kernel
theorem dX11_test_246 : decode cX11_test 246 = .ok (.ireturn, 1) := by decide +kernel
theorem dX11_test_247 : decode cX11_test 247 = .ok (.aload_n 0, 1) := by decide +kernel
theorem dX11_test_248 : decode cX11_test 248 = .ok (.iload 6, 2) := by decide +kernel
theorem dX11_test_250 : decode cX11_test 250 = .ok (.putfield 60, 3) := by decide +kernel
theorem dX11_test_253 : decode cX11_test 253 = .ok (.iload 5, 2) := by decide +kernel
theorem dX11_test_255 : decode cX11_test 255 = .ok (.ireturn, 1) := by decide +kernel
theorem dX11_readWith_0 : decode cX11_readWith 0 = .ok (.iconst 0, 1) := by decide +kernel
theorem dX11_readWith_1 : decode cX11_readWith 1 = .ok (.istore 4, 2) := by decide +kernel
theorem dX11_readWith_3 : decode cX11_readWith 3 = .ok (.iconst 0, 1) := by decide +kernel
theorem dX11_readWith_4 : decode cX11_readWith 4 = .ok (.istore 5, 2) := by decide +kernel
theorem dX11_readWith_6 : decode cX11_readWith 6 = .ok (.iload 5, 2) := by decide +kernel
theorem dX11_readWith_8 : decode cX11_readWith 8 = .ok (.aload_n 0, 1) := by decide +kernel
theorem dX11_readWith_9 : decode cX11_readWith 9 = .ok (.getfield 7, 3) := by decide +kernel
theorem dX11_readWith_12 : decode cX11_readWith 12 = .ok (.iconst 1, 1) := by decide +kernel
theorem dX11_readWith_13 : decode cX11_readWith 13 = .ok (.iaload, 1) := by decide +kernel
theorem dX11_readWith_14 : decode cX11_readWith 14 = .ok (.if_icmp .ge 68, 3) := by decide +kernel
theorem dX11_readWith_17 : decode cX11_readWith 17 = .ok (.aload_n 0, 1) := by decide +kernel
theorem dX11_readWith_18 : decode cX11_readWith 18 = .ok (.getfield 7, 3) := by decide +kernel
theorem dX11_readWith_21 : decode cX11_readWith 21 = .ok (.iconst 3, 1) := by decide +kernel
theorem dX11_readWith_22 : decode cX11_readWith 22 = .ok (.iload 5, 2) := by decide +kernel
theorem dX11_readWith_24 : decode cX11_readWith 24 = .ok (.iadd, 1) := by decide +kernel
theorem dX11_readWith_25 : decode cX11_readWith 25 = .ok (.iaload, 1) := by decide +kernel
theorem dX11_readWith_26 : decode cX11_readWith 26 = .ok (.istore 6, 2) := by decide +kernel
theorem dX11_readWith_28 : decode cX11_readWith 28 = .ok (.bipush 10, 2) := by decide +kernel
theorem dX11_readWith_30 : decode cX11_readWith 30 = .ok (.iload 4, 2) := by decide +kernel
theorem dX11_readWith_32 : decode cX11_readWith 32 = .ok (.imul, 1) := by decide +kernel
theorem dX11_readWith_33 : decode cX11_readWith 33 = .ok (.aload_n 0, 1) := by decide +kernel
theorem dX11_readWith_34 : decode cX11_readWith 34 = .ok (.getfield 7, 3) := by decide +kernel
theorem dX11_readWith_37 : decode cX11_readWith 37 = .ok (.bipush 10, 2) := by decide +kernel
theorem dX11_readWith_39 : decode cX11_readWith 39 = .ok (.iload 6, 2) := by decide +kernel
theorem dX11_readWith_41 : decode cX11_readWith 41 = .ok (.iadd, 1) := by decide +kernel
theorem dX11_readWith_42 : decode cX11_readWith 42 = .ok (.iaload, 1) := by decide +kernel
theorem dX11_readWith_43 : decode cX11_readWith 43 = .ok (.iload 5, 2) := by decide +kernel
theorem dX11_readWith_45 : decode cX11_readWith 45 = .ok (.iload_n 2, 1) := by decide +kernel
theorem dX11_readWith_46 : decode cX11_readWith 46 = .ok (.if_icmp .ne 7, 3) := by decide +kernel
theorem dX11_readWith_49 : decode cX11_readWith 49 = .ok (.iload_n 3, 1) := by decide +kernel
theorem dX11_readWith_50 : decode cX11_readWith 50 = .ok (.goto 9, 3) := by decide +kernel
theorem dX11_readWith_53 : decode cX11_readWith 53 = .ok (.aload_n 0, 1) := by decide +kernel
theorem dX11_readWith_54 : decode cX11_readWith 54 = .ok (.iload 6, 2) := by decide +kernel
theorem dX11_readWith_56 : decode cX11_readWith 56 = .ok (.invokevirtual 123, 3) := by decide +kernel
theorem dX11_readWith_59 : decode cX11_readWith 59 = .ok (.aload_n 0, 1) := by decide +kernel
theorem dX11_readWith_60 : decode cX11_readWith 60 = .ok (.getfield 7, 3) := by decide +kernel
theorem dX11_readWith_63 : decode cX11_readWith 63 = .ok (.bipush 24, 2) := by decide +kernel
theorem dX11_readWith_65 : decode cX11_readWith 65 = .ok (.iload 6, 2) := by decide +kernel
theorem dX11_readWith_67 : decode cX11_readWith 67 = .ok (.iadd, 1) := by decide +kernel
theorem dX11_readWith_68 : decode cX11_readWith 68 = .ok (.iaload, 1) := by decide +kernel
theorem dX11_readWith_69 : decode cX11_readWith 69 = .ok (.iload_n 1, 1) := by decide +kernel
theorem dX11_readWith_70 : decode cX11_readWith 70 = .ok (.invokestatic 126, 3) := by decide +kernel
theorem dX11_readWith_73 : decode cX11_readWith 73 = .ok (.iadd, 1) := by decide +kernel
theorem dX11_readWith_74 : decode cX11_readWith 74 = .ok (.istore 4, 2) := by decide +kernel
theorem dX11_readWith_76 : decode cX11_readWith 76 = .ok (.iinc 5 1, 3) := by decide +kernel
theorem dX11_readWith_79 : decode cX11_readWith 79 = .ok (.goto (-73), 3) := by decide +kernel
theorem dX11_readWith_82 : decode cX11_readWith 82 = .ok (.iload 4, 2) := by decide +kernel
theorem dX11_readWith_84 : decode cX11_readWith 84 = .ok (.ireturn, 1) := by decide +kernel
theorem dX11_other_0 : decode cX11_other 0 = .ok (.iload_n 1, 1) := by decide +kernel
theorem dX11_other_1 : decode cX11_other 1 = .ok (.invokestatic 76, 3) := by decide +kernel
theorem dX11_other_4 : decode cX11_other 4 = .ok (.ifCond .ne 5, 3) := by decide +kernel
theorem dX11_other_7 : decode cX11_other 7 = .ok (.iconst (-1), 1) := by decide +kernel
theorem dX11_other_8 : decode cX11_other 8 = .ok (.ireturn, 1) := by decide +kernel
theorem dX11_other_9 : decode cX11_other 9 = .ok (.aload_n 0, 1) := by decide +kernel
theorem dX11_other_10 : decode cX11_other 10 = .ok (.iload_n 1, 1) := by decide +kernel
theorem dX11_other_11 : decode cX11_other 11 = .ok (.invokevirtual 196, 3) := by decide +kernel
theorem dX11_other_14 : decode cX11_other 14 = .ok (.istore_n 2, 1) := by decide +kernel
theorem dX11_other_15 : decode cX11_other 15 = .ok (.iload_n 2, 1) := by decide +kernel
theorem dX11_other_16 : decode cX11_other 16 = .ok (.ifCond .eq 5, 3) := by decide +kernel
theorem dX11_other_19 : decode cX11_other 19 = .ok (.iload_n 2, 1) := by decide +kernel
theorem dX11_other_20 : decode cX11_other 20 = .ok (.ireturn, 1) := by decide +kernel
theorem dX11_other_21 : decode cX11_other 21 = .ok (.iconst 0, 1) := by decide +kernel
theorem dX11_other_22 : decode cX11_other 22 = .ok (.istore_n 3, 1) := by decide +kernel
theorem dX11_other_23 : decode cX11_other 23 = .ok (.bipush (-9), 2) := by decide +kernel
theorem dX11_other_25 : decode cX11_other 25 = .ok (.istore 4, 2) := by decide +kernel
theorem dX11_other_27 : decode cX11_other 27 = .ok (.iconst 0, 1) := by decide +kernel
theorem dX11_other_28 : decode cX11_other 28 = .ok (.istore 5, 2) := by decide +kernel
theorem dX11_other_30 : decode cX11_other 30 = .ok (.iload 5, 2) := by decide +kernel
theorem dX11_other_32 : decode cX11_other 32 = .ok (.aload_n 0, 1) := by decide +kernel
theorem dX11_other_33 : decode cX11_other 33 = .ok (.getfield 7, 3) := by decide +kernel
theorem dX11_other_36 : decode cX11_other 36 = .ok (.iconst 1, 1) := by decide +kernel
theorem dX11_other_37 : decode cX11_other 37 = .ok (.iaload, 1) := by decide +kernel
theorem dX11_other_38 : decode cX11_other 38 = .ok (.if_icmp .ge 156, 3) := by decide +kernel
theorem dX11_other_41 : decode cX11_other 41 = .ok (.iconst 0, 1) := by decide +kernel
theorem dX11_other_42 : decode cX11_other 42 = .ok (.istore 6, 2) := by decide +kernel
theorem dX11_other_44 : decode cX11_other 44 = .ok (.iload 6, 2) := by decide +kernel
theorem dX11_other_46 : decode cX11_other 46 = .ok (.bipush 10, 2) := by decide +kernel
theorem dX11_other_48 : decode cX11_other 48 = .ok (.if_icmp .ge 140, 3) := by decide +kernel
theorem dX11_other_51 : decode cX11_other 51 = .ok (.iload 6, 2) := by decide +kernel
theorem dX11_other_53 : decode cX11_other 53 = .ok (.aload_n 0, 1) := by decide +kernel
theorem dX11_other_54 : decode cX11_other 54 = .ok (.aload_n 0, 1) := by decide +kernel
theorem dX11_other_55 : decode cX11_other 55 = .ok (.getfield 7, 3) := by decide +kernel
theorem dX11_other_58 : decode cX11_other 58 = .ok (.iconst 3, 1) := by decide +kernel
theorem dX11_other_59 : decode cX11_other 59 = .ok (.iload 5, 2) := by decide +kernel
theorem dX11_other_61 : decode cX11_other 61 = .ok (.iadd, 1) := by decide +kernel
theorem dX11_other_62 : decode cX11_other 62 = .ok (.iaload, 1) := by decide +kernel
theorem dX11_other_63 : decode cX11_other 63 = .ok (.invokevirtual 123, 3) := by decide +kernel
theorem dX11_other_66 : decode cX11_other 66 = .ok (.if_icmp .eq 7, 3) := by decide +kernel
theorem dX11_other_69 : decode cX11_other 69 = .ok (.iconst 1, 1) := by decide +kernel
theorem dX11_other_70 : decode cX11_other 70 = .ok (.goto 4, 3) := by decide +kernel
theorem dX11_other_73 : decode cX11_other 73 = .ok (.iconst 0, 1) := by decide +kernel
theorem dX11_other_74 : decode cX11_other 74 = .ok (.istore 7, 2) := by decide +kernel
theorem dX11_other_76 : decode cX11_other 76 = .ok (.iconst 0, 1) := by decide +kernel
theorem dX11_other_77 : decode cX11_other 77 = .ok (.istore 8, 2) := by decide +kernel
theorem dX11_other_79 : decode cX11_other 79 = .ok (.iload 8, 2) := by decide +kernel
theorem dX11_other_81 : decode cX11_other 81 = .ok (.aload_n 0, 1) := by decide +kernel
theorem dX11_other_82 : decode cX11_other 82 = .ok (.getfield 13, 3) := by decide +kernel
theorem dX11_other_85 : decode cX11_other 85 = .ok (.iload_n 1, 1) := by decide +kernel
theorem dX11_other_86 : decode cX11_other 86 = .ok (.iaload, 1) := by decide +kernel
theorem dX11_other_87 : decode cX11_other 87 = .ok (.if_icmp .ge 58, 3) := by decide +kernel
theorem dX11_other_90 : decode cX11_other 90 = .ok (.iload 7, 2) := by decide +kernel
theorem dX11_other_92 : decode cX11_other 92 = .ok (.ifCond .eq 53, 3) := by decide +kernel
theorem dX11_other_95 : decode cX11_other 95 = .ok (.aload_n 0, 1) := by decide +kernel
theorem dX11_other_96 : decode cX11_other 96 = .ok (.aload_n 0, 1) := by decide +kernel
theorem dX11_other_97 : decode cX11_other 97 = .ok (.getfield 16, 3) := by decide +kernel
theorem dX11_other_100 : decode cX11_other 100 = .ok (.bipush 40, 2) := by decide +kernel
theorem dX11_other_102 : decode cX11_other 102 = .ok (.iload_n 1, 1) := by decide +kernel
theorem dX11_other_103 : decode cX11_other 103 = .ok (.imul, 1) := by decide +kernel
theorem dX11_other_104 : decode cX11_other 104 = .ok (.iload 8, 2) := by decide +kernel
theorem dX11_other_106 : decode cX11_other 106 = .ok (.iadd, 1) := by decide +kernel
theorem dX11_other_107 : decode cX11_other 107 = .ok (.iaload, 1) := by decide +kernel
theorem dX11_other_108 : decode cX11_other 108 = .ok (.iload 5, 2) := by decide +kernel
theorem dX11_other_110 : decode cX11_other 110 = .ok (.iload 6, 2) := by decide +kernel
theorem dX11_other_112 : decode cX11_other 112 = .ok (.invokevirtual 206, 3) := by decide +kernel
theorem dX11_other_115 : decode cX11_other 115 = .ok (.aload_n 0, 1) := by decide +kernel
theorem dX11_other_116 : decode cX11_other 116 = .ok (.getfield 16, 3) := by decide +kernel
theorem dX11_other_119 : decode cX11_other 119 = .ok (.bipush 40, 2) := by decide +kernel
theorem dX11_other_121 : decode cX11_other 121 = .ok (.iload_n 1, 1) := by decide +kernel
theorem dX11_other_122 : decode cX11_other 122 = .ok (.imul, 1) := by decide +kernel
theorem dX11_other_123 : decode cX11_other 123 = .ok (.iload 8, 2) := by decide +kernel
theorem dX11_other_125 : decode cX11_other 125 = .ok (.iadd, 1) := by decide +kernel
theorem dX11_other_126 : decode cX11_other 126 = .ok (.iconst 1, 1) := by decide +kernel
theorem dX11_other_127 : decode cX11_other 127 = .ok (.iadd, 1) := by decide +kernel
theorem dX11_other_128 : decode cX11_other 128 = .ok (.iaload, 1) := by decide +kernel
theorem dX11_other_129 : decode cX11_other 129 = .ok (.if_icmp .ne 7, 3) := by decide +kernel
theorem dX11_other_132 : decode cX11_other 132 = .ok (.iconst 1, 1) := by decide +kernel
theorem dX11_other_133 : decode cX11_other 133 = .ok (.goto 4, 3) := by decide +kernel
theorem dX11_other_136 : decode cX11_other 136 = .ok (.iconst 0, 1) := by decide +kernel
theorem dX11_other_137 : decode cX11_other 137 = .ok (.istore 7, 2) := by decide +kernel
theorem dX11_other_139 : decode cX11_other 139 = .ok (.iinc 8 2, 3) := by decide +kernel
theorem dX11_other_142 : decode cX11_other 142 = .ok (.goto (-63), 3) := by decide +kernel
theorem dX11_other_145 : decode cX11_other 145 = .ok (.iload 7, 2) := by decide +kernel
theorem dX11_other_147 : decode cX11_other 147 = .ok (.ifCond .eq 18, 3) := by decide +kernel
theorem dX11_other_150 : decode cX11_other 150 = .ok (.iload_n 3, 1) := by decide +kernel
theorem dX11_other_151 : decode cX11_other 151 = .ok (.ifCond .ne 14, 3) := by decide +kernel
theorem dX11_other_154 : decode cX11_other 154 = .ok (.bipush 10, 2) := by decide +kernel
theorem dX11_other_156 : decode cX11_other 156 = .ok (.iload 5, 2) := by decide +kernel
theorem dX11_other_158 : decode cX11_other 158 = .ok (.imul, 1) := by decide +kernel
theorem dX11_other_159 : decode cX11_other 159 = .ok (.iload 6, 2) := by decide +kernel
theorem dX11_other_161 : decode cX11_other 161 = .ok (.iadd, 1) := by decide +kernel
theorem dX11_other_162 : decode cX11_other 162 = .ok (.goto 5, 3) := by decide +kernel
theorem dX11_other_165 : decode cX11_other 165 = .ok (.iload 4, 2) := by decide +kernel
theorem dX11_other_167 : decode cX11_other 167 = .ok (.istore 4, 2) := by decide +kernel
theorem dX11_other_169 : decode cX11_other 169 = .ok (.iload_n 3, 1) := by decide +kernel
theorem dX11_other_170 : decode cX11_other 170 = .ok (.iload 7, 2) := by decide +kernel
theorem dX11_other_172 : decode cX11_other 172 = .ok (.ifCond .eq 7, 3) := by decide +kernel
theorem dX11_other_175 : decode cX11_other 175 = .ok (.iconst 1, 1) := by decide +kernel
theorem dX11_other_176 : decode cX11_other 176 = .ok (.goto 4, 3) := by decide +kernel
theorem dX11_other_179 : decode cX11_other 179 = .ok (.iconst 0, 1) := by decide +kernel
theorem dX11_other_180 : decode cX11_other 180 = .ok (.iadd, 1) := by decide +kernel
theorem dX11_other_181 : decode cX11_other 181 = .ok (.istore_n 3, 1) := by decide +kernel
theorem dX11_other_182 : decode cX11_other 182 = .ok (.iinc 6 1, 3) := by decide +kernel
theorem dX11_other_185 : decode cX11_other 185 = .ok (.goto (-141), 3) := by decide +kernel
theorem dX11_other_188 : decode cX11_other 188 = .ok (.iinc 5 1, 3) := by decide +kernel
theorem dX11_other_191 : decode cX11_other 191 = .ok (.goto (-161), 3) := by decide +kernel
theorem dX11_other_194 : decode cX11_other 194 = .ok (.iload_n 3, 1) := by decide +kernel
theorem dX11_other_195 : decode cX11_other 195 = .ok (.ifCond .ne 6, 3) := by decide +kernel
theorem dX11_other_198 : decode cX11_other 198 = .ok (.bipush (-9), 2) := by decide +kernel
theorem dX11_other_200 : decode cX11_other 200 = .ok (.ireturn, 1) := by decide +kernel
theorem dX11_other_201 : decode cX11_other 201 = .ok (.aload_n 0, 1) := by decide +kernel
theorem dX11_other_202 : decode cX11_other 202 = .ok (.iload 4, 2) := by decide +kernel
theorem dX11_other_204 : decode cX11_other 204 = .ok (.putfield 60, 3) := by decide +kernel
theorem dX11_other_207 : decode cX11_other 207 = .ok (.iload_n 3, 1) := by decide +kernel
theorem dX11_other_208 : decode cX11_other 208 = .ok (.ireturn, 1) := by decide +kernel
theorem dX11_duel_0 : decode cX11_duel 0 = .ok (.iload_n 1, 1) := by decide +kernel
theorem dX11_duel_1 : decode cX11_duel 1 = .ok (.i2l, 1) := by decide +kernel
theorem dX11_duel_2 : decode cX11_duel 2 = .ok (.lconst 0, 1) := by decide +kernel
theorem dX11_duel_3 : decode cX11_duel 3 = .ok (.ldc2_w 66, 3) := by decide +kernel
theorem dX11_duel_6 : decode cX11_duel 6 = .ok (.invokestatic 68, 3) := by decide +kernel
theorem dX11_duel_9 : decode cX11_duel 9 = .ok (.ifCond .eq 10, 3) := by decide +kernel
theorem dX11_duel_12 : decode cX11_duel 12 = .ok (.iload_n 2, 1) := by decide +kernel
theorem dX11_duel_13 : decode cX11_duel 13 = .ok (.invokestatic 151, 3) := by decide +kernel
theorem dX11_duel_16 : decode cX11_duel 16 = .ok (.ifCond .ne 5, 3) := by decide +kernel
theorem dX11_duel_19 : decode cX11_duel 19 = .ok (.iconst (-1), 1) := by decide +kernel
theorem dX11_duel_20 : decode cX11_duel 20 = .ok (.ireturn, 1) := by decide +kernel
theorem dX11_duel_21 : decode cX11_duel 21 = .ok (.aload_n 0, 1) := by decide +kernel
theorem dX11_duel_22 : decode cX11_duel 22 = .ok (.getfield 7, 3) := by decide +kernel
theorem dX11_duel_25 : decode cX11_duel 25 = .ok (.iconst 0, 1) := by decide +kernel
theorem dX11_duel_26 : decode cX11_duel 26 = .ok (.iaload, 1) := by decide +kernel
theorem dX11_duel_27 : decode cX11_duel 27 = .ok (.ifCond .ne 6, 3) := by decide +kernel
theorem dX11_duel_30 : decode cX11_duel 30 = .ok (.bipush (-4), 2) := by decide +kernel
theorem dX11_duel_32 : decode cX11_duel 32 = .ok (.ireturn, 1) := by decide +kernel
theorem dX11_duel_33 : decode cX11_duel 33 = .ok (.aload_n 0, 1) := by decide +kernel
theorem dX11_duel_34 : decode cX11_duel 34 = .ok (.getfield 7, 3) := by decide +kernel
theorem dX11_duel_37 : decode cX11_duel 37 = .ok (.iconst 0, 1) := by decide +kernel
theorem dX11_duel_38 : decode cX11_duel 38 = .ok (.iaload, 1) := by decide +kernel
theorem dX11_duel_39 : decode cX11_duel 39 = .ok (.aload_n 0, 1) := by decide +kernel
theorem dX11_duel_40 : decode cX11_duel 40 = .ok (.getfield 7, 3) := by decide +kernel
theorem dX11_duel_43 : decode cX11_duel 43 = .ok (.iconst 1, 1) := by decide +kernel
theorem dX11_duel_44 : decode cX11_duel 44 = .ok (.iaload, 1) := by decide +kernel
theorem dX11_duel_45 : decode cX11_duel 45 = .ok (.isub, 1) := by decide +kernel
theorem dX11_duel_46 : decode cX11_duel 46 = .ok (.istore_n 3, 1) := by decide +kernel
theorem dX11_duel_47 : decode cX11_duel 47 = .ok (.iload_n 1, 1) := by decide +kernel
theorem dX11_duel_48 : decode cX11_duel 48 = .ok (.iload_n 3, 1) := by decide +kernel
theorem dX11_duel_49 : decode cX11_duel 49 = .ok (.if_icmp .ge 7, 3) := by decide +kernel
theorem dX11_duel_52 : decode cX11_duel 52 = .ok (.iload_n 1, 1) := by decide +kernel
theorem dX11_duel_53 : decode cX11_duel 53 = .ok (.goto 4, 3) := by decide +kernel
theorem dX11_duel_56 : decode cX11_duel 56 = .ok (.iload_n 3, 1) := by decide +kernel
theorem dX11_duel_57 : decode cX11_duel 57 = .ok (.istore 4, 2) := by decide +kernel
theorem dX11_duel_59 : decode cX11_duel 59 = .ok (.iconst 0, 1) := by decide +kernel
theorem dX11_duel_60 : decode cX11_duel 60 = .ok (.istore 5, 2) := by decide +kernel
theorem dX11_duel_62 : decode cX11_duel 62 = .ok (.aload_n 0, 1) := by decide +kernel
theorem dX11_duel_63 : decode cX11_duel 63 = .ok (.getfield 50, 3) := by decide +kernel
theorem dX11_duel_66 : decode cX11_duel 66 = .ok (.iconst 0, 1) := by decide +kernel
theorem dX11_duel_67 : decode cX11_duel 67 = .ok (.aload_n 0, 1) := by decide +kernel
theorem dX11_duel_68 : decode cX11_duel 68 = .ok (.iload_n 2, 1) := by decide +kernel
theorem dX11_duel_69 : decode cX11_duel 69 = .ok (.invokevirtual 173, 3) := by decide +kernel
theorem dX11_duel_72 : decode cX11_duel 72 = .ok (.iastore, 1) := by decide +kernel
theorem dX11_duel_73 : decode cX11_duel 73 = .ok (.aload_n 0, 1) := by decide +kernel
theorem dX11_duel_74 : decode cX11_duel 74 = .ok (.getfield 50, 3) := by decide +kernel
theorem dX11_duel_77 : decode cX11_duel 77 = .ok (.iconst 0, 1) := by decide +kernel
theorem dX11_duel_78 : decode cX11_duel 78 = .ok (.iaload, 1) := by decide +kernel
theorem dX11_duel_79 : decode cX11_duel 79 = .ok (.istore 6, 2) := by decide +kernel
theorem dX11_duel_81 : decode cX11_duel 81 = .ok (.iload 4, 2) := by decide +kernel
theorem dX11_duel_83 : decode cX11_duel 83 = .ok (.ifCond .ne 6, 3) := by decide +kernel
theorem dX11_duel_86 : decode cX11_duel 86 = .ok (.iload 6, 2) := by decide +kernel
theorem dX11_duel_88 : decode cX11_duel 88 = .ok (.ireturn, 1) := by decide +kernel
theorem dX11_duel_89 : decode cX11_duel 89 = .ok (.aload_n 0, 1) := by decide +kernel
theorem dX11_duel_90 : decode cX11_duel 90 = .ok (.getfield 47, 3) := by decide +kernel
theorem dX11_duel_93 : decode cX11_duel 93 = .ok (.iconst 0, 1) := by decide +kernel
theorem dX11_duel_94 : decode cX11_duel 94 = .ok (.iconst (-1), 1) := by decide +kernel
theorem dX11_duel_95 : decode cX11_duel 95 = .ok (.iastore, 1) := by decide +kernel
theorem dX11_duel_96 : decode cX11_duel 96 = .ok (.aload_n 0, 1) := by decide +kernel
theorem dX11_duel_97 : decode cX11_duel 97 = .ok (.getfield 53, 3) := by decide +kernel
theorem dX11_duel_100 : decode cX11_duel 100 = .ok (.iconst 0, 1) := by decide +kernel
theorem dX11_duel_101 : decode cX11_duel 101 = .ok (.iconst (-1), 1) := by decide +kernel
theorem dX11_duel_102 : decode cX11_duel 102 = .ok (.iastore, 1) := by decide +kernel
theorem dX11_duel_103 : decode cX11_duel 103 = .ok (.iload 5, 2) := by decide +kernel
theorem dX11_duel_105 : decode cX11_duel 105 = .ok (.ifCond .lt 258, 3) := by decide +kernel
theorem dX11_duel_108 : decode cX11_duel 108 = .ok (.iload 5, 2) := by decide +kernel
theorem dX11_duel_110 : decode cX11_duel 110 = .ok (.iload 4, 2) := by decide +kernel
theorem dX11_duel_112 : decode cX11_duel 112 = .ok (.if_icmp .ne 7, 3) := by decide +kernel
theorem dX11_duel_115 : decode cX11_duel 115 = .ok (.iconst 1, 1) := by decide +kernel
theorem dX11_duel_116 : decode cX11_duel 116 = .ok (.goto 4, 3) := by decide +kernel
theorem dX11_duel_119 : decode cX11_duel 119 = .ok (.iconst 0, 1) := by decide +kernel
theorem dX11_duel_120 : decode cX11_duel 120 = .ok (.istore 7, 2) := by decide +kernel
theorem dX11_duel_122 : decode cX11_duel 122 = .ok (.iload 7, 2) := by decide +kernel
theorem dX11_duel_124 : decode cX11_duel 124 = .ok (.ifCond .eq 15, 3) := by decide +kernel
theorem dX11_duel_127 : decode cX11_duel 127 = .ok (.aload_n 0, 1) := by decide +kernel
theorem dX11_duel_128 : decode cX11_duel 128 = .ok (.getfield 50, 3) := by decide +kernel
theorem dX11_duel_131 : decode cX11_duel 131 = .ok (.iload 5, 2) := by decide +kernel
theorem dX11_duel_133 : decode cX11_duel 133 = .ok (.iaload, 1) := by decide +kernel
theorem dX11_duel_134 : decode cX11_duel 134 = .ok (.istore 6, 2) := by decide +kernel
theorem dX11_duel_136 : decode cX11_duel 136 = .ok (.goto 136, 3) := by decide +kernel
theorem dX11_duel_139 : decode cX11_duel 139 = .ok (.aload_n 0, 1) := by decide +kernel
theorem dX11_duel_140 : decode cX11_duel 140 = .ok (.getfield 47, 3) := by decide +kernel
theorem dX11_duel_143 : decode cX11_duel 143 = .ok (.iload 5, 2) := by decide +kernel
theorem dX11_duel_145 : decode cX11_duel 145 = .ok (.iaload, 1) := by decide +kernel
theorem dX11_duel_146 : decode cX11_duel 146 = .ok (.iconst 1, 1) := by decide +kernel
theorem dX11_duel_147 : decode cX11_duel 147 = .ok (.iadd, 1) := by decide +kernel
theorem dX11_duel_148 : decode cX11_duel 148 = .ok (.istore 8, 2) := by decide +kernel
theorem dX11_duel_150 : decode cX11_duel 150 = .ok (.iload 8, 2) := by decide +kernel
theorem dX11_duel_152 : decode cX11_duel 152 = .ok (.aload_n 0, 1) := by decide +kernel
theorem dX11_duel_153 : decode cX11_duel 153 = .ok (.getfield 7, 3) := by decide +kernel
