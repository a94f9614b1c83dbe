theorem dX6_init_0 : decode cX6_init 0 = .ok (.aload_n 0, 1) := by decide +kernel
theorem dX6_init_1 : decode cX6_init 1 = .ok (.invokespecial 1, 3) := by decide +kernel
theorem dX6_init_4 : decode cX6_init 4 = .ok (.aload_n 0, 1) := by decide +kernel
theorem dX6_init_5 : decode cX6_init 5 = .ok (.bipush 80, 2) := by decide +kernel
theorem dX6_init_7 : decode cX6_init 7 = .ok (.newarray .int, 2) := by decide +kernel
theorem dX6_init_9 : decode cX6_init 9 = .ok (.putfield 7, 3) := by decide +kernel
theorem dX6_init_12 : decode cX6_init 12 = .ok (.aload_n 0, 1) := by decide +kernel
theorem dX6_init_13 : decode cX6_init 13 = .ok (.sipush 480, 3) := by decide +kernel
theorem dX6_init_16 : decode cX6_init 16 = .ok (.newarray .int, 2) := by decide +kernel
theorem dX6_init_18 : decode cX6_init 18 = .ok (.putfield 13, 3) := by decide +kernel
theorem dX6_init_21 : decode cX6_init 21 = .ok (.aload_n 0, 1) := by decide +kernel
theorem dX6_init_22 : decode cX6_init 22 = .ok (.sipush 160, 3) := by decide +kernel
theorem dX6_init_25 : decode cX6_init 25 = .ok (.newarray .int, 2) := by decide +kernel
theorem dX6_init_27 : decode cX6_init 27 = .ok (.putfield 16, 3) := by decide +kernel
theorem dX6_init_30 : decode cX6_init 30 = .ok (.aload_n 0, 1) := by decide +kernel
theorem dX6_init_31 : decode cX6_init 31 = .ok (.iconst 2, 1) := by decide +kernel
theorem dX6_init_32 : decode cX6_init 32 = .ok (.newarray .boolean, 2) := by decide +kernel
theorem dX6_init_34 : decode cX6_init 34 = .ok (.putfield 19, 3) := by decide +kernel
theorem dX6_init_37 : decode cX6_init 37 = .ok (.aload_n 0, 1) := by decide +kernel
theorem dX6_init_38 : decode cX6_init 38 = .ok (.bipush 12, 2) := by decide +kernel
theorem dX6_init_40 : decode cX6_init 40 = .ok (.newarray .int, 2) := by decide +kernel
theorem dX6_init_42 : decode cX6_init 42 = .ok (.putfield 23, 3) := by decide +kernel
theorem dX6_init_45 : decode cX6_init 45 = .ok (.aload_n 0, 1) := by decide +kernel
theorem dX6_init_46 : decode cX6_init 46 = .ok (.bipush 7, 2) := by decide +kernel
theorem dX6_init_48 : decode cX6_init 48 = .ok (.newarray .int, 2) := by decide +kernel
theorem dX6_init_50 : decode cX6_init 50 = .ok (.putfield 26, 3) := by decide +kernel
theorem dX6_init_53 : decode cX6_init 53 = .ok (.aload_n 0, 1) := by decide +kernel
theorem dX6_init_54 : decode cX6_init 54 = .ok (.bipush 7, 2) := by decide +kernel
theorem dX6_init_56 : decode cX6_init 56 = .ok (.newarray .int, 2) := by decide +kernel
theorem dX6_init_58 : decode cX6_init 58 = .ok (.putfield 29, 3) := by decide +kernel
theorem dX6_init_61 : decode cX6_init 61 = .ok (.aload_n 0, 1) := by decide +kernel
theorem dX6_init_62 : decode cX6_init 62 = .ok (.bipush 48, 2) := by decide +kernel
theorem dX6_init_64 : decode cX6_init 64 = .ok (.newarray .int, 2) := by decide +kernel
theorem dX6_init_66 : decode cX6_init 66 = .ok (.putfield 32, 3) := by decide +kernel
theorem dX6_init_69 : decode cX6_init 69 = .ok (.aload_n 0, 1) := by decide +kernel
theorem dX6_init_70 : decode cX6_init 70 = .ok (.bipush 48, 2) := by decide +kernel
theorem dX6_init_72 : decode cX6_init 72 = .ok (.newarray .int, 2) := by decide +kernel
theorem dX6_init_74 : decode cX6_init 74 = .ok (.putfield 35, 3) := by decide +kernel
theorem dX6_init_77 : decode cX6_init 77 = .ok (.aload_n 0, 1) := by decide +kernel
theorem dX6_init_78 : decode cX6_init 78 = .ok (.bipush 48, 2) := by decide +kernel
theorem dX6_init_80 : decode cX6_init 80 = .ok (.newarray .int, 2) := by decide +kernel
theorem dX6_init_82 : decode cX6_init 82 = .ok (.putfield 38, 3) := by decide +kernel
theorem dX6_init_85 : decode cX6_init 85 = .ok (.aload_n 0, 1) := by decide +kernel
theorem dX6_init_86 : decode cX6_init 86 = .ok (.bipush 48, 2) := by decide +kernel
theorem dX6_init_88 : decode cX6_init 88 = .ok (.newarray .int, 2) := by decide +kernel
theorem dX6_init_90 : decode cX6_init 90 = .ok (.putfield 41, 3) := by decide +kernel
theorem dX6_init_93 : decode cX6_init 93 = .ok (.aload_n 0, 1) := by decide +kernel
theorem dX6_init_94 : decode cX6_init 94 = .ok (.bipush 6, 2) := by decide +kernel
theorem dX6_init_96 : decode cX6_init 96 = .ok (.newarray .int, 2) := by decide +kernel
theorem dX6_init_98 : decode cX6_init 98 = .ok (.putfield 44, 3) := by decide +kernel
theorem dX6_init_101 : decode cX6_init 101 = .ok (.aload_n 0, 1) := by decide +kernel
theorem dX6_init_102 : decode cX6_init 102 = .ok (.iconst 0, 1) := by decide +kernel
theorem dX6_init_103 : decode cX6_init 103 = .ok (.putfield 47, 3) := by decide +kernel
theorem dX6_init_106 : decode cX6_init 106 = .ok (.aload_n 0, 1) := by decide +kernel
theorem dX6_init_107 : decode cX6_init 107 = .ok (.getfield 7, 3) := by decide +kernel
theorem dX6_init_110 : decode cX6_init 110 = .ok (.iconst 0, 1) := by decide +kernel
theorem dX6_init_111 : decode cX6_init 111 = .ok (.iconst 1, 1) := by decide +kernel
theorem dX6_init_112 : decode cX6_init 112 = .ok (.iastore, 1) := by decide +kernel
theorem dX6_init_113 : decode cX6_init 113 = .ok (.aload_n 0, 1) := by decide +kernel
theorem dX6_init_114 : decode cX6_init 114 = .ok (.getfield 7, 3) := by decide +kernel
theorem dX6_init_117 : decode cX6_init 117 = .ok (.iconst 1, 1) := by decide +kernel
theorem dX6_init_118 : decode cX6_init 118 = .ok (.sipush 840, 3) := by decide +kernel
theorem dX6_init_121 : decode cX6_init 121 = .ok (.iastore, 1) := by decide +kernel
theorem dX6_init_122 : decode cX6_init 122 = .ok (.aload_n 0, 1) := by decide +kernel
theorem dX6_init_123 : decode cX6_init 123 = .ok (.getfield 7, 3) := by decide +kernel
theorem dX6_init_126 : decode cX6_init 126 = .ok (.iconst 2, 1) := by decide +kernel
theorem dX6_init_127 : decode cX6_init 127 = .ok (.iconst 4, 1) := by decide +kernel
theorem dX6_init_128 : decode cX6_init 128 = .ok (.iastore, 1) := by decide +kernel
theorem dX6_init_129 : decode cX6_init 129 = .ok (.aload_n 0, 1) := by decide +kernel
theorem dX6_init_130 : decode cX6_init 130 = .ok (.getfield 7, 3) := by decide +kernel
theorem dX6_init_133 : decode cX6_init 133 = .ok (.iconst 3, 1) := by decide +kernel
theorem dX6_init_134 : decode cX6_init 134 = .ok (.bipush 10, 2) := by decide +kernel
theorem dX6_init_136 : decode cX6_init 136 = .ok (.iastore, 1) := by decide +kernel
theorem dX6_init_137 : decode cX6_init 137 = .ok (.iconst 0, 1) := by decide +kernel
theorem dX6_init_138 : decode cX6_init 138 = .ok (.istore_n 1, 1) := by decide +kernel
theorem dX6_init_139 : decode cX6_init 139 = .ok (.iload_n 1, 1) := by decide +kernel
theorem dX6_init_140 : decode cX6_init 140 = .ok (.bipush 6, 2) := by decide +kernel
theorem dX6_init_142 : decode cX6_init 142 = .ok (.if_icmp .ge 24, 3) := by decide +kernel
theorem dX6_init_145 : decode cX6_init 145 = .ok (.aload_n 0, 1) := by decide +kernel
theorem dX6_init_146 : decode cX6_init 146 = .ok (.iload_n 1, 1) := by decide +kernel
theorem dX6_init_147 : decode cX6_init 147 = .ok (.iconst 0, 1) := by decide +kernel
theorem dX6_init_148 : decode cX6_init 148 = .ok (.bipush 17, 2) := by decide +kernel
theorem dX6_init_150 : decode cX6_init 150 = .ok (.invokevirtual 51, 3) := by decide +kernel
theorem dX6_init_153 : decode cX6_init 153 = .ok (.aload_n 0, 1) := by decide +kernel
theorem dX6_init_154 : decode cX6_init 154 = .ok (.iload_n 1, 1) := by decide +kernel
theorem dX6_init_155 : decode cX6_init 155 = .ok (.iconst 2, 1) := by decide +kernel
theorem dX6_init_156 : decode cX6_init 156 = .ok (.iconst 2, 1) := by decide +kernel
theorem dX6_init_157 : decode cX6_init 157 = .ok (.invokevirtual 51, 3) := by decide +kernel
theorem dX6_init_160 : decode cX6_init 160 = .ok (.iinc 1 1, 3) := by decide +kernel
theorem dX6_init_163 : decode cX6_init 163 = .ok (.goto (-24), 3) := by decide +kernel
theorem dX6_init_166 : decode cX6_init 166 = .ok (.return_, 1) := by decide +kernel
theorem dX6_thrown_0 : decode cX6_thrown 0 = .ok (.aload_n 0, 1) := by decide +kernel
theorem dX6_thrown_1 : decode cX6_thrown 1 = .ok (.getfield 47, 3) := by decide +kernel
theorem dX6_thrown_4 : decode cX6_thrown 4 = .ok (.ireturn, 1) := by decide +kernel
theorem dX6_in_0 : decode cX6_in 0 = .ok (.iload_n 0, 1) := by decide +kernel
theorem dX6_in_1 : decode cX6_in 1 = .ok (.iload_n 1, 1) := by decide +kernel
theorem dX6_in_2 : decode cX6_in 2 = .ok (.if_icmp .lt 12, 3) := by decide +kernel
theorem dX6_in_5 : decode cX6_in 5 = .ok (.iload_n 0, 1) := by decide +kernel
theorem dX6_in_6 : decode cX6_in 6 = .ok (.iload_n 2, 1) := by decide +kernel
theorem dX6_in_7 : decode cX6_in 7 = .ok (.if_icmp .gt 7, 3) := by decide +kernel
theorem dX6_in_10 : decode cX6_in 10 = .ok (.iconst 1, 1) := by decide +kernel
theorem dX6_in_11 : decode cX6_in 11 = .ok (.goto 4, 3) := by decide +kernel
theorem dX6_in_14 : decode cX6_in 14 = .ok (.iconst 0, 1) := by decide +kernel
theorem dX6_in_15 : decode cX6_in 15 = .ok (.ireturn, 1) := by decide +kernel
theorem dX6_fails_0 : decode cX6_fails 0 = .ok (.aload_n 0, 1) := by decide +kernel
theorem dX6_fails_1 : decode cX6_fails 1 = .ok (.iload_n 1, 1) := by decide +kernel
theorem dX6_fails_2 : decode cX6_fails 2 = .ok (.putfield 47, 3) := by decide +kernel
theorem dX6_fails_5 : decode cX6_fails 5 = .ok (.iconst 0, 1) := by decide +kernel
theorem dX6_fails_6 : decode cX6_fails 6 = .ok (.ireturn, 1) := by decide +kernel
theorem dX6_isSlot_0 : decode cX6_isSlot 0 = .ok (.iload_n 0, 1) := by decide +kernel
theorem dX6_isSlot_1 : decode cX6_isSlot 1 = .ok (.iconst 0, 1) := by decide +kernel
theorem dX6_isSlot_2 : decode cX6_isSlot 2 = .ok (.iconst 5, 1) := by decide +kernel
theorem dX6_isSlot_3 : decode cX6_isSlot 3 = .ok (.invokestatic 55, 3) := by decide +kernel
theorem dX6_isSlot_6 : decode cX6_isSlot 6 = .ok (.ireturn, 1) := by decide +kernel
theorem dX6_isSegment_0 : decode cX6_isSegment 0 = .ok (.iload_n 0, 1) := by decide +kernel
theorem dX6_isSegment_1 : decode cX6_isSegment 1 = .ok (.iconst 0, 1) := by decide +kernel
theorem dX6_isSegment_2 : decode cX6_isSegment 2 = .ok (.bipush 7, 2) := by decide +kernel
theorem dX6_isSegment_4 : decode cX6_isSegment 4 = .ok (.invokestatic 55, 3) := by decide +kernel
theorem dX6_isSegment_7 : decode cX6_isSegment 7 = .ok (.ireturn, 1) := by decide +kernel
theorem dX6_of_0 : decode cX6_of 0 = .ok (.aload_n 0, 1) := by decide +kernel
theorem dX6_of_1 : decode cX6_of 1 = .ok (.getfield 7, 3) := by decide +kernel
theorem dX6_of_4 : decode cX6_of 4 = .ok (.bipush 8, 2) := by decide +kernel
theorem dX6_of_6 : decode cX6_of 6 = .ok (.iconst 4, 1) := by decide +kernel
theorem dX6_of_7 : decode cX6_of 7 = .ok (.iload_n 1, 1) := by decide +kernel
theorem dX6_of_8 : decode cX6_of 8 = .ok (.imul, 1) := by decide +kernel
theorem dX6_of_9 : decode cX6_of 9 = .ok (.iadd, 1) := by decide +kernel
theorem dX6_of_10 : decode cX6_of 10 = .ok (.iload_n 2, 1) := by decide +kernel
theorem dX6_of_11 : decode cX6_of 11 = .ok (.iadd, 1) := by decide +kernel
theorem dX6_of_12 : decode cX6_of 12 = .ok (.iaload, 1) := by decide +kernel
theorem dX6_of_13 : decode cX6_of 13 = .ok (.ireturn, 1) := by decide +kernel
theorem dX6_lay_0 : decode cX6_lay 0 = .ok (.aload_n 0, 1) := by decide +kernel
theorem dX6_lay_1 : decode cX6_lay 1 = .ok (.getfield 7, 3) := by decide +kernel
theorem dX6_lay_4 : decode cX6_lay 4 = .ok (.bipush 8, 2) := by decide +kernel
theorem dX6_lay_6 : decode cX6_lay 6 = .ok (.iconst 4, 1) := by decide +kernel
theorem dX6_lay_7 : decode cX6_lay 7 = .ok (.iload_n 1, 1) := by decide +kernel
theorem dX6_lay_8 : decode cX6_lay 8 = .ok (.imul, 1) := by decide +kernel
theorem dX6_lay_9 : decode cX6_lay 9 = .ok (.iadd, 1) := by decide +kernel
theorem dX6_lay_10 : decode cX6_lay 10 = .ok (.iload_n 2, 1) := by decide +kernel
theorem dX6_lay_11 : decode cX6_lay 11 = .ok (.iadd, 1) := by decide +kernel
theorem dX6_lay_12 : decode cX6_lay 12 = .ok (.iload_n 3, 1) := by decide +kernel
theorem dX6_lay_13 : decode cX6_lay 13 = .ok (.iastore, 1) := by decide +kernel
theorem dX6_lay_14 : decode cX6_lay 14 = .ok (.return_, 1) := by decide +kernel
theorem dX6_ones_0 : decode cX6_ones 0 = .ok (.iconst 0, 1) := by decide +kernel
theorem dX6_ones_1 : decode cX6_ones 1 = .ok (.istore_n 1, 1) := by decide +kernel
theorem dX6_ones_2 : decode cX6_ones 2 = .ok (.iconst 0, 1) := by decide +kernel
theorem dX6_ones_3 : decode cX6_ones 3 = .ok (.istore_n 2, 1) := by decide +kernel
theorem dX6_ones_4 : decode cX6_ones 4 = .ok (.iload_n 2, 1) := by decide +kernel
theorem dX6_ones_5 : decode cX6_ones 5 = .ok (.bipush 8, 2) := by decide +kernel
theorem dX6_ones_7 : decode cX6_ones 7 = .ok (.if_icmp .ge 17, 3) := by decide +kernel
theorem dX6_ones_10 : decode cX6_ones 10 = .ok (.iload_n 1, 1) := by decide +kernel
theorem dX6_ones_11 : decode cX6_ones 11 = .ok (.iload_n 0, 1) := by decide +kernel
theorem dX6_ones_12 : decode cX6_ones 12 = .ok (.iload_n 2, 1) := by decide +kernel
theorem dX6_ones_13 : decode cX6_ones 13 = .ok (.ishr, 1) := by decide +kernel
theorem dX6_ones_14 : decode cX6_ones 14 = .ok (.iconst 1, 1) := by decide +kernel
theorem dX6_ones_15 : decode cX6_ones 15 = .ok (.iand, 1) := by decide +kernel
theorem dX6_ones_16 : decode cX6_ones 16 = .ok (.iadd, 1) := by decide +kernel
theorem dX6_ones_17 : decode cX6_ones 17 = .ok (.istore_n 1, 1) := by decide +kernel
theorem dX6_ones_18 : decode cX6_ones 18 = .ok (.iinc 2 1, 3) := by decide +kernel
theorem dX6_ones_21 : decode cX6_ones 21 = .ok (.goto (-17), 3) := by decide +kernel
theorem dX6_ones_24 : decode cX6_ones 24 = .ok (.iload_n 1, 1) := by decide +kernel
theorem dX6_ones_25 : decode cX6_ones 25 = .ok (.ireturn, 1) := by decide +kernel
theorem dX6_saves_0 : decode cX6_saves 0 = .ok (.aload_n 0, 1) := by decide +kernel
theorem dX6_saves_1 : decode cX6_saves 1 = .ok (.getfield 59, 3) := by decide +kernel
theorem dX6_saves_4 : decode cX6_saves 4 = .ok (.bipush 6, 2) := by decide +kernel
theorem dX6_saves_6 : decode cX6_saves 6 = .ok (.if_icmp .ne 43, 3) := by decide +kernel
theorem dX6_saves_9 : decode cX6_saves 9 = .ok (.iconst 0, 1) := by decide +kernel
theorem dX6_saves_10 : decode cX6_saves 10 = .ok (.istore_n 1, 1) := by decide +kernel
theorem dX6_saves_11 : decode cX6_saves 11 = .ok (.iload_n 1, 1) := by decide +kernel
theorem dX6_saves_12 : decode cX6_saves 12 = .ok (.sipush 400, 3) := by decide +kernel
theorem dX6_saves_15 : decode cX6_saves 15 = .ok (.if_icmp .ge 24, 3) := by decide +kernel
theorem dX6_saves_18 : decode cX6_saves 18 = .ok (.aload_n 0, 1) := by decide +kernel
theorem dX6_saves_19 : decode cX6_saves 19 = .ok (.getfield 13, 3) := by decide +kernel
theorem dX6_saves_22 : decode cX6_saves 22 = .ok (.iload_n 1, 1) := by decide +kernel
theorem dX6_saves_23 : decode cX6_saves 23 = .ok (.aload_n 0, 1) := by decide +kernel
theorem dX6_saves_24 : decode cX6_saves 24 = .ok (.getfield 13, 3) := by decide +kernel
theorem dX6_saves_27 : decode cX6_saves 27 = .ok (.iload_n 1, 1) := by decide +kernel
theorem dX6_saves_28 : decode cX6_saves 28 = .ok (.bipush 80, 2) := by decide +kernel
theorem dX6_saves_30 : decode cX6_saves 30 = .ok (.iadd, 1) := by decide +kernel
theorem dX6_saves_31 : decode cX6_saves 31 = .ok (.iaload, 1) := by decide +kernel
theorem dX6_saves_32 : decode cX6_saves 32 = .ok (.iastore, 1) := by decide +kernel
theorem dX6_saves_33 : decode cX6_saves 33 = .ok (.iinc 1 1, 3) := by decide +kernel
theorem dX6_saves_36 : decode cX6_saves 36 = .ok (.goto (-25), 3) := by decide +kernel
theorem dX6_saves_39 : decode cX6_saves 39 = .ok (.aload_n 0, 1) := by decide +kernel
theorem dX6_saves_40 : decode cX6_saves 40 = .ok (.dup, 1) := by decide +kernel
theorem dX6_saves_41 : decode cX6_saves 41 = .ok (.getfield 59, 3) := by decide +kernel
theorem dX6_saves_44 : decode cX6_saves 44 = .ok (.iconst 1, 1) := by decide +kernel
theorem dX6_saves_45 : decode cX6_saves 45 = .ok (.isub, 1) := by decide +kernel
theorem dX6_saves_46 : decode cX6_saves 46 = .ok (.putfield 59, 3) := by decide +kernel
theorem dX6_saves_49 : decode cX6_saves 49 = .ok (.iconst 0, 1) := by decide +kernel
theorem dX6_saves_50 : decode cX6_saves 50 = .ok (.istore_n 1, 1) := by decide +kernel
theorem dX6_saves_51 : decode cX6_saves 51 = .ok (.iload_n 1, 1) := by decide +kernel
theorem dX6_saves_52 : decode cX6_saves 52 = .ok (.bipush 80, 2) := by decide +kernel
theorem dX6_saves_54 : decode cX6_saves 54 = .ok (.if_icmp .ge 29, 3) := by decide +kernel
theorem dX6_saves_57 : decode cX6_saves 57 = .ok (.aload_n 0, 1) := by decide +kernel
theorem dX6_saves_58 : decode cX6_saves 58 = .ok (.getfield 13, 3) := by decide +kernel
theorem dX6_saves_61 : decode cX6_saves 61 = .ok (.bipush 80, 2) := by decide +kernel
theorem dX6_saves_63 : decode cX6_saves 63 = .ok (.aload_n 0, 1) := by decide +kernel
theorem dX6_saves_64 : decode cX6_saves 64 = .ok (.getfield 59, 3) := by decide +kernel
theorem dX6_saves_67 : decode cX6_saves 67 = .ok (.imul, 1) := by decide +kernel
theorem dX6_saves_68 : decode cX6_saves 68 = .ok (.iload_n 1, 1) := by decide +kernel
theorem dX6_saves_69 : decode cX6_saves 69 = .ok (.iadd, 1) := by decide +kernel
theorem dX6_saves_70 : decode cX6_saves 70 = .ok (.aload_n 0, 1) := by decide +kernel
theorem dX6_saves_71 : decode cX6_saves 71 = .ok (.getfield 7, 3) := by decide +kernel
theorem dX6_saves_74 : decode cX6_saves 74 = .ok (.iload_n 1, 1) := by decide +kernel
theorem dX6_saves_75 : decode cX6_saves 75 = .ok (.iaload, 1) := by decide +kernel
theorem dX6_saves_76 : decode cX6_saves 76 = .ok (.iastore, 1) := by decide +kernel
theorem dX6_saves_77 : decode cX6_saves 77 = .ok (.iinc 1 1, 3) := by decide +kernel
theorem dX6_saves_80 : decode cX6_saves 80 = .ok (.goto (-29), 3) := by decide +kernel
theorem dX6_saves_83 : decode cX6_saves 83 = .ok (.aload_n 0, 1) := by decide +kernel
theorem dX6_saves_84 : decode cX6_saves 84 = .ok (.dup, 1) := by decide +kernel
theorem dX6_saves_85 : decode cX6_saves 85 = .ok (.getfield 59, 3) := by decide +kernel
theorem dX6_saves_88 : decode cX6_saves 88 = .ok (.iconst 1, 1) := by decide +kernel
theorem dX6_saves_89 : decode cX6_saves 89 = .ok (.iadd, 1) := by decide +kernel
theorem dX6_saves_90 : decode cX6_saves 90 = .ok (.putfield 59, 3) := by decide +kernel
theorem dX6_saves_93 : decode cX6_saves 93 = .ok (.return_, 1) := by decide +kernel
theorem dX6_segmentsOf_0 : decode cX6_segmentsOf 0 = .ok (.iload_n 0, 1) := by decide +kernel
theorem dX6_segmentsOf_1 : decode cX6_segmentsOf 1 = .ok (.tableswitch 134 0 16 #[83, 86, 89, 92, 95, 98, 101, 104, 107, 110, 113, 116, 119, 122, 125, 128, 131], 83) := by decide +kernel
theorem dX6_segmentsOf_84 : decode cX6_segmentsOf 84 = .ok (.bipush 63, 2) := by decide +kernel
theorem dX6_segmentsOf_86 : decode cX6_segmentsOf 86 = .ok (.ireturn, 1) := by decide +kernel
theorem dX6_segmentsOf_87 : decode cX6_segmentsOf 87 = .ok (.bipush 6, 2) := by decide +kernel
theorem dX6_segmentsOf_89 : decode cX6_segmentsOf 89 = .ok (.ireturn, 1) := by decide +kernel
theorem dX6_segmentsOf_90 : decode cX6_segmentsOf 90 = .ok (.bipush 91, 2) := by decide +kernel
theorem dX6_segmentsOf_92 : decode cX6_segmentsOf 92 = .ok (.ireturn, 1) := by decide +kernel
theorem dX6_segmentsOf_93 : decode cX6_segmentsOf 93 = .ok (.bipush 79, 2) := by decide +kernel
theorem dX6_segmentsOf_95 : decode cX6_segmentsOf 95 = .ok (.ireturn, 1) := by decide +kernel
theorem dX6_segmentsOf_96 : decode cX6_segmentsOf 96 = .ok (.bipush 102, 2) := by decide +kernel
theorem dX6_segmentsOf_98 : decode cX6_segmentsOf 98 = .ok (.ireturn, 1) := by decide +kernel
theorem dX6_segmentsOf_99 : decode cX6_segmentsOf 99 = .ok (.bipush 109, 2) := by decide +kernel
theorem dX6_segmentsOf_101 : decode cX6_segmentsOf 101 = .ok (.ireturn, 1) := by decide +kernel
theorem dX6_segmentsOf_102 : decode cX6_segmentsOf 102 = .ok (.bipush 125, 2) := by decide +kernel
theorem dX6_segmentsOf_104 : decode cX6_segmentsOf 104 = .ok (.ireturn, 1) := by decide +kernel
theorem dX6_segmentsOf_105 : decode cX6_segmentsOf 105 = .ok (.bipush 7, 2) := by decide +kernel
theorem dX6_segmentsOf_107 : decode cX6_segmentsOf 107 = .ok (.ireturn, 1) := by decide +kernel
theorem dX6_segmentsOf_108 : decode cX6_segmentsOf 108 = .ok (.bipush 127, 2) := by decide +kernel
theorem dX6_segmentsOf_110 : decode cX6_segmentsOf 110 = .ok (.ireturn, 1) := by decide +kernel
theorem dX6_segmentsOf_111 : decode cX6_segmentsOf 111 = .ok (.bipush 111, 2) := by decide +kernel
theorem dX6_segmentsOf_113 : decode cX6_segmentsOf 113 = .ok (.ireturn, 1) := by decide +kernel
theorem dX6_segmentsOf_114 : decode cX6_segmentsOf 114 = .ok (.bipush 119, 2) := by decide +kernel
theorem dX6_segmentsOf_116 : decode cX6_segmentsOf 116 = .ok (.ireturn, 1) := by decide +kernel
theorem dX6_segmentsOf_117 : decode cX6_segmentsOf 117 = .ok (.bipush 124, 2) := by decide +kernel
theorem dX6_segmentsOf_119 : decode cX6_segmentsOf 119 = .ok (.ireturn, 1) := by decide +kernel
theorem dX6_segmentsOf_120 : decode cX6_segmentsOf 120 = .ok (.bipush 57, 2) := by decide +kernel
theorem dX6_segmentsOf_122 : decode cX6_segmentsOf 122 = .ok (.ireturn, 1) := by decide +kernel
theorem dX6_segmentsOf_123 : decode cX6_segmentsOf 123 = .ok (.bipush 94, 2) := by decide +kernel
theorem dX6_segmentsOf_125 : decode cX6_segmentsOf 125 = .ok (.ireturn, 1) := by decide +kernel
theorem dX6_segmentsOf_126 : decode cX6_segmentsOf 126 = .ok (.bipush 121, 2) := by decide +kernel
theorem dX6_segmentsOf_128 : decode cX6_segmentsOf 128 = .ok (.ireturn, 1) := by decide +kernel
theorem dX6_segmentsOf_129 : decode cX6_segmentsOf 129 = .ok (.bipush 113, 2) := by decide +kernel
theorem dX6_segmentsOf_131 : decode cX6_segmentsOf 131 = .ok (.ireturn, 1) := by decide +kernel
theorem dX6_segmentsOf_132 : decode cX6_segmentsOf 132 = .ok (.bipush 64, 2) := by decide +kernel
theorem dX6_segmentsOf_134 : decode cX6_segmentsOf 134 = .ok (.ireturn, 1) := by decide +kernel
theorem dX6_segmentsOf_135 : decode cX6_segmentsOf 135 = .ok (.iconst 0, 1) := by decide +kernel
theorem dX6_segmentsOf_136 : decode cX6_segmentsOf 136 = .ok (.ireturn, 1) := by decide +kernel
theorem dX6_working_0 : decode cX6_working 0 = .ok (.iload_n 2, 1) := by decide +kernel
theorem dX6_working_1 : decode cX6_working 1 = .ok (.aload_n 0, 1) := by decide +kernel
theorem dX6_working_2 : decode cX6_working 2 = .ok (.iload_n 1, 1) := by decide +kernel
theorem dX6_working_3 : decode cX6_working 3 = .ok (.iconst 3, 1) := by decide +kernel
theorem dX6_working_4 : decode cX6_working 4 = .ok (.invokevirtual 62, 3) := by decide +kernel
theorem dX6_working_7 : decode cX6_working 7 = .ok (.iconst (-1), 1) := by decide +kernel
theorem dX6_working_8 : decode cX6_working 8 = .ok (.ixor, 1) := by decide +kernel
theorem dX6_working_9 : decode cX6_working 9 = .ok (.iand, 1) := by decide +kernel
theorem dX6_working_10 : decode cX6_working 10 = .ok (.aload_n 0, 1) := by decide +kernel
theorem dX6_working_11 : decode cX6_working 11 = .ok (.getfield 7, 3) := by decide +kernel
theorem dX6_working_14 : decode cX6_working 14 = .ok (.iconst 4, 1) := by decide +kernel
theorem dX6_working_15 : decode cX6_working 15 = .ok (.iaload, 1) := by decide +kernel
theorem dX6_working_16 : decode cX6_working 16 = .ok (.iconst (-1), 1) := by decide +kernel
theorem dX6_working_17 : decode cX6_working 17 = .ok (.ixor, 1) := by decide +kernel
theorem dX6_working_18 : decode cX6_working 18 = .ok (.iand, 1) := by decide +kernel
theorem dX6_working_19 : decode cX6_working 19 = .ok (.ireturn, 1) := by decide +kernel
theorem dX6_works_0 : decode cX6_works 0 = .ok (.aload_n 0, 1) := by decide +kernel
theorem dX6_works_1 : decode cX6_works 1 = .ok (.iload_n 1, 1) := by decide +kernel
theorem dX6_works_2 : decode cX6_works 2 = .ok (.aload_n 0, 1) := by decide +kernel
theorem dX6_works_3 : decode cX6_works 3 = .ok (.iload_n 1, 1) := by decide +kernel
theorem dX6_works_4 : decode cX6_works 4 = .ok (.iconst 0, 1) := by decide +kernel
theorem dX6_works_5 : decode cX6_works 5 = .ok (.invokevirtual 62, 3) := by decide +kernel
theorem dX6_works_8 : decode cX6_works 8 = .ok (.invokestatic 66, 3) := by decide +kernel
theorem dX6_works_11 : decode cX6_works 11 = .ok (.sipush 128, 3) := by decide +kernel
theorem dX6_works_14 : decode cX6_works 14 = .ok (.aload_n 0, 1) := by decide +kernel
theorem dX6_works_15 : decode cX6_works 15 = .ok (.iload_n 1, 1) := by decide +kernel
theorem dX6_works_16 : decode cX6_works 16 = .ok (.iconst 1, 1) := by decide +kernel
theorem dX6_works_17 : decode cX6_works 17 = .ok (.invokevirtual 62, 3) := by decide +kernel
theorem dX6_works_20 : decode cX6_works 20 = .ok (.imul, 1) := by decide +kernel
theorem dX6_works_21 : decode cX6_works 21 = .ok (.iadd, 1) := by decide +kernel
theorem dX6_works_22 : decode cX6_works 22 = .ok (.invokevirtual 70, 3) := by decide +kernel
theorem dX6_works_25 : decode cX6_works 25 = .ok (.ireturn, 1) := by decide +kernel
theorem dX6_light_0 : decode cX6_light 0 = .ok (.aload_n 0, 1) := by decide +kernel
theorem dX6_light_1 : decode cX6_light 1 = .ok (.iload_n 1, 1) := by decide +kernel
theorem dX6_light_2 : decode cX6_light 2 = .ok (.invokevirtual 73, 3) := by decide +kernel
theorem dX6_light_5 : decode cX6_light 5 = .ok (.invokestatic 76, 3) := by decide +kernel
theorem dX6_light_8 : decode cX6_light 8 = .ok (.istore_n 2, 1) := by decide +kernel
theorem dX6_light_9 : decode cX6_light 9 = .ok (.iload_n 2, 1) := by decide +kernel
theorem dX6_light_10 : decode cX6_light 10 = .ok (.ifCond .ne 7, 3) := by decide +kernel
theorem dX6_light_13 : decode cX6_light 13 = .ok (.iconst 0, 1) := by decide +kernel
theorem dX6_light_14 : decode cX6_light 14 = .ok (.goto 11, 3) := by decide +kernel
theorem dX6_light_17 : decode cX6_light 17 = .ok (.aload_n 0, 1) := by decide +kernel
theorem dX6_light_18 : decode cX6_light 18 = .ok (.getfield 7, 3) := by decide +kernel
theorem dX6_light_21 : decode cX6_light 21 = .ok (.iconst 1, 1) := by decide +kernel
theorem dX6_light_22 : decode cX6_light 22 = .ok (.iaload, 1) := by decide +kernel
theorem dX6_light_23 : decode cX6_light 23 = .ok (.iload_n 2, 1) := by decide +kernel
theorem dX6_light_24 : decode cX6_light 24 = .ok (.idiv, 1) := by decide +kernel
theorem dX6_light_25 : decode cX6_light 25 = .ok (.ireturn, 1) := by decide +kernel
theorem dX6_lengthOf_0 : decode cX6_lengthOf 0 = .ok (.aload_n 0, 1) := by decide +kernel
theorem dX6_lengthOf_1 : decode cX6_lengthOf 1 = .ok (.iload_n 1, 1) := by decide +kernel
theorem dX6_lengthOf_2 : decode cX6_lengthOf 2 = .ok (.iconst 2, 1) := by decide +kernel
theorem dX6_lengthOf_3 : decode cX6_lengthOf 3 = .ok (.invokevirtual 62, 3) := by decide +kernel
theorem dX6_lengthOf_6 : decode cX6_lengthOf 6 = .ok (.ifCond .ne 7, 3) := by decide +kernel
theorem dX6_lengthOf_9 : decode cX6_lengthOf 9 = .ok (.iconst 0, 1) := by decide +kernel
theorem dX6_lengthOf_10 : decode cX6_lengthOf 10 = .ok (.goto 16, 3) := by decide +kernel
theorem dX6_lengthOf_13 : decode cX6_lengthOf 13 = .ok (.aload_n 0, 1) := by decide +kernel
theorem dX6_lengthOf_14 : decode cX6_lengthOf 14 = .ok (.getfield 7, 3) := by decide +kernel
theorem dX6_lengthOf_17 : decode cX6_lengthOf 17 = .ok (.iconst 0, 1) := by decide +kernel
theorem dX6_lengthOf_18 : decode cX6_lengthOf 18 = .ok (.iaload, 1) := by decide +kernel
theorem dX6_lengthOf_19 : decode cX6_lengthOf 19 = .ok (.aload_n 0, 1) := by decide +kernel
theorem dX6_lengthOf_20 : decode cX6_lengthOf 20 = .ok (.iload_n 1, 1) := by decide +kernel
theorem dX6_lengthOf_21 : decode cX6_lengthOf 21 = .ok (.iconst 2, 1) := by decide +kernel
theorem dX6_lengthOf_22 : decode cX6_lengthOf 22 = .ok (.invokevirtual 62, 3) := by decide +kernel
theorem dX6_lengthOf_25 : decode cX6_lengthOf 25 = .ok (.iadd, 1) := by decide +kernel
theorem dX6_lengthOf_26 : decode cX6_lengthOf 26 = .ok (.ireturn, 1) := by decide +kernel
theorem dX6_roundTicks_0 : decode cX6_roundTicks 0 = .ok (.iconst 0, 1) := by decide +kernel
theorem dX6_roundTicks_1 : decode cX6_roundTicks 1 = .ok (.istore_n 1, 1) := by decide +kernel
theorem dX6_roundTicks_2 : decode cX6_roundTicks 2 = .ok (.iconst 0, 1) := by decide +kernel
theorem dX6_roundTicks_3 : decode cX6_roundTicks 3 = .ok (.istore_n 2, 1) := by decide +kernel
theorem dX6_roundTicks_4 : decode cX6_roundTicks 4 = .ok (.iload_n 2, 1) := by decide +kernel
theorem dX6_roundTicks_5 : decode cX6_roundTicks 5 = .ok (.bipush 6, 2) := by decide +kernel
theorem dX6_roundTicks_7 : decode cX6_roundTicks 7 = .ok (.if_icmp .ge 17, 3) := by decide +kernel
theorem dX6_roundTicks_10 : decode cX6_roundTicks 10 = .ok (.iload_n 1, 1) := by decide +kernel
theorem dX6_roundTicks_11 : decode cX6_roundTicks 11 = .ok (.aload_n 0, 1) := by decide +kernel
theorem dX6_roundTicks_12 : decode cX6_roundTicks 12 = .ok (.iload_n 2, 1) := by decide +kernel
theorem dX6_roundTicks_13 : decode cX6_roundTicks 13 = .ok (.invokevirtual 79, 3) := by decide +kernel
theorem dX6_roundTicks_16 : decode cX6_roundTicks 16 = .ok (.iadd, 1) := by decide +kernel
theorem dX6_roundTicks_17 : decode cX6_roundTicks 17 = .ok (.istore_n 1, 1) := by decide +kernel
theorem dX6_roundTicks_18 : decode cX6_roundTicks 18 = .ok (.iinc 2 1, 3) := by decide +kernel
theorem dX6_roundTicks_21 : decode cX6_roundTicks 21 = .ok (.goto (-17), 3) := by decide +kernel
theorem dX6_roundTicks_24 : decode cX6_roundTicks 24 = .ok (.iload_n 1, 1) := by decide +kernel
theorem dX6_roundTicks_25 : decode cX6_roundTicks 25 = .ok (.ireturn, 1) := by decide +kernel
theorem dX6_slotAt_0 : decode cX6_slotAt 0 = .ok (.iconst 0, 1) := by decide +kernel
theorem dX6_slotAt_1 : decode cX6_slotAt 1 = .ok (.istore_n 2, 1) := by decide +kernel
theorem dX6_slotAt_2 : decode cX6_slotAt 2 = .ok (.iload_n 1, 1) := by decide +kernel
theorem dX6_slotAt_3 : decode cX6_slotAt 3 = .ok (.istore_n 3, 1) := by decide +kernel
theorem dX6_slotAt_4 : decode cX6_slotAt 4 = .ok (.iload_n 3, 1) := by decide +kernel
theorem dX6_slotAt_5 : decode cX6_slotAt 5 = .ok (.aload_n 0, 1) := by decide +kernel
theorem dX6_slotAt_6 : decode cX6_slotAt 6 = .ok (.iload_n 2, 1) := by decide +kernel
theorem dX6_slotAt_7 : decode cX6_slotAt 7 = .ok (.invokevirtual 79, 3) := by decide +kernel
theorem dX6_slotAt_10 : decode cX6_slotAt 10 = .ok (.if_icmp .lt 17, 3) := by decide +kernel
theorem dX6_slotAt_13 : decode cX6_slotAt 13 = .ok (.iload_n 3, 1) := by decide +kernel
theorem dX6_slotAt_14 : decode cX6_slotAt 14 = .ok (.aload_n 0, 1) := by decide +kernel
theorem dX6_slotAt_15 : decode cX6_slotAt 15 = .ok (.iload_n 2, 1) := by decide +kernel
theorem dX6_slotAt_16 : decode cX6_slotAt 16 = .ok (.invokevirtual 79, 3) := by decide +kernel
theorem dX6_slotAt_19 : decode cX6_slotAt 19 = .ok (.isub, 1) := by decide +kernel
theorem dX6_slotAt_20 : decode cX6_slotAt 20 = .ok (.istore_n 3, 1) := by decide +kernel
theorem dX6_slotAt_21 : decode cX6_slotAt 21 = .ok (.iinc 2 1, 3) := by decide +kernel
theorem dX6_slotAt_24 : decode cX6_slotAt 24 = .ok (.goto (-20), 3) := by decide +kernel
theorem dX6_slotAt_27 : decode cX6_slotAt 27 = .ok (.bipush 100, 2) := by decide +kernel
theorem dX6_slotAt_29 : decode cX6_slotAt 29 = .ok (.iload_n 2, 1) := by decide +kernel
theorem dX6_slotAt_30 : decode cX6_slotAt 30 = .ok (.imul, 1) := by decide +kernel
theorem dX6_slotAt_31 : decode cX6_slotAt 31 = .ok (.iload_n 3, 1) := by decide +kernel
theorem dX6_slotAt_32 : decode cX6_slotAt 32 = .ok (.iadd, 1) := by decide +kernel
theorem dX6_slotAt_33 : decode cX6_slotAt 33 = .ok (.ireturn, 1) := by decide +kernel
theorem dX6_slotAhead_0 : decode cX6_slotAhead 0 = .ok (.iload_n 1, 1) := by decide +kernel
theorem dX6_slotAhead_1 : decode cX6_slotAhead 1 = .ok (.bipush 6, 2) := by decide +kernel
theorem dX6_slotAhead_3 : decode cX6_slotAhead 3 = .ok (.iadd, 1) := by decide +kernel
theorem dX6_slotAhead_4 : decode cX6_slotAhead 4 = .ok (.iconst 1, 1) := by decide +kernel
theorem dX6_slotAhead_5 : decode cX6_slotAhead 5 = .ok (.isub, 1) := by decide +kernel
theorem dX6_slotAhead_6 : decode cX6_slotAhead 6 = .ok (.bipush 6, 2) := by decide +kernel
theorem dX6_slotAhead_8 : decode cX6_slotAhead 8 = .ok (.irem, 1) := by decide +kernel
theorem dX6_slotAhead_9 : decode cX6_slotAhead 9 = .ok (.istore_n 2, 1) := by decide +kernel
theorem dX6_slotAhead_10 : decode cX6_slotAhead 10 = .ok (.iload_n 2, 1) := by decide +kernel
theorem dX6_slotAhead_11 : decode cX6_slotAhead 11 = .ok (.iload_n 1, 1) := by decide +kernel
theorem dX6_slotAhead_12 : decode cX6_slotAhead 12 = .ok (.if_icmp .eq 25, 3) := by decide +kernel
theorem dX6_slotAhead_15 : decode cX6_slotAhead 15 = .ok (.aload_n 0, 1) := by decide +kernel
theorem dX6_slotAhead_16 : decode cX6_slotAhead 16 = .ok (.iload_n 2, 1) := by decide +kernel
theorem dX6_slotAhead_17 : decode cX6_slotAhead 17 = .ok (.iconst 2, 1) := by decide +kernel
theorem dX6_slotAhead_18 : decode cX6_slotAhead 18 = .ok (.invokevirtual 62, 3) := by decide +kernel
theorem dX6_slotAhead_21 : decode cX6_slotAhead 21 = .ok (.ifCond .ne 16, 3) := by decide +kernel
theorem dX6_slotAhead_24 : decode cX6_slotAhead 24 = .ok (.iload_n 2, 1) := by decide +kernel
theorem dX6_slotAhead_25 : decode cX6_slotAhead 25 = .ok (.bipush 6, 2) := by decide +kernel
theorem dX6_slotAhead_27 : decode cX6_slotAhead 27 = .ok (.iadd, 1) := by decide +kernel
theorem dX6_slotAhead_28 : decode cX6_slotAhead 28 = .ok (.iconst 1, 1) := by decide +kernel
theorem dX6_slotAhead_29 : decode cX6_slotAhead 29 = .ok (.isub, 1) := by decide +kernel
theorem dX6_slotAhead_30 : decode cX6_slotAhead 30 = .ok (.bipush 6, 2) := by decide +kernel
theorem dX6_slotAhead_32 : decode cX6_slotAhead 32 = .ok (.irem, 1) := by decide +kernel
theorem dX6_slotAhead_33 : decode cX6_slotAhead 33 = .ok (.istore_n 2, 1) := by decide +kernel
theorem dX6_slotAhead_34 : decode cX6_slotAhead 34 = .ok (.goto (-24), 3) := by decide +kernel
theorem dX6_slotAhead_37 : decode cX6_slotAhead 37 = .ok (.iload_n 2, 1) := by decide +kernel
theorem dX6_slotAhead_38 : decode cX6_slotAhead 38 = .ok (.ireturn, 1) := by decide +kernel
theorem dX6_lightOf_0 : decode cX6_lightOf 0 = .ok (.aload_n 0, 1) := by decide +kernel
theorem dX6_lightOf_1 : decode cX6_lightOf 1 = .ok (.iload_n 1, 1) := by decide +kernel
theorem dX6_lightOf_2 : decode cX6_lightOf 2 = .ok (.invokevirtual 73, 3) := by decide +kernel
theorem dX6_lightOf_5 : decode cX6_lightOf 5 = .ok (.iload_n 2, 1) := by decide +kernel
theorem dX6_lightOf_6 : decode cX6_lightOf 6 = .ok (.ishr, 1) := by decide +kernel
theorem dX6_lightOf_7 : decode cX6_lightOf 7 = .ok (.iconst 1, 1) := by decide +kernel
theorem dX6_lightOf_8 : decode cX6_lightOf 8 = .ok (.iand, 1) := by decide +kernel
theorem dX6_lightOf_9 : decode cX6_lightOf 9 = .ok (.iconst 1, 1) := by decide +kernel
theorem dX6_lightOf_10 : decode cX6_lightOf 10 = .ok (.if_icmp .ne 11, 3) := by decide +kernel
theorem dX6_lightOf_13 : decode cX6_lightOf 13 = .ok (.aload_n 0, 1) := by decide +kernel
theorem dX6_lightOf_14 : decode cX6_lightOf 14 = .ok (.iload_n 1, 1) := by decide +kernel
theorem dX6_lightOf_15 : decode cX6_lightOf 15 = .ok (.invokevirtual 82, 3) := by decide +kernel
theorem dX6_lightOf_18 : decode cX6_lightOf 18 = .ok (.goto 4, 3) := by decide +kernel
theorem dX6_lightOf_21 : decode cX6_lightOf 21 = .ok (.iconst 0, 1) := by decide +kernel
theorem dX6_lightOf_22 : decode cX6_lightOf 22 = .ok (.istore 4, 2) := by decide +kernel
theorem dX6_lightOf_24 : decode cX6_lightOf 24 = .ok (.aload_n 0, 1) := by decide +kernel
theorem dX6_lightOf_25 : decode cX6_lightOf 25 = .ok (.iload_n 1, 1) := by decide +kernel
theorem dX6_lightOf_26 : decode cX6_lightOf 26 = .ok (.invokevirtual 85, 3) := by decide +kernel
theorem dX6_lightOf_29 : decode cX6_lightOf 29 = .ok (.istore 5, 2) := by decide +kernel
theorem dX6_lightOf_31 : decode cX6_lightOf 31 = .ok (.aload_n 0, 1) := by decide +kernel
theorem dX6_lightOf_32 : decode cX6_lightOf 32 = .ok (.getfield 7, 3) := by decide +kernel
theorem dX6_lightOf_35 : decode cX6_lightOf 35 = .ok (.iconst 0, 1) := by decide +kernel
theorem dX6_lightOf_36 : decode cX6_lightOf 36 = .ok (.iaload, 1) := by decide +kernel
theorem dX6_lightOf_37 : decode cX6_lightOf 37 = .ok (.ifCond .ne 44, 3) := by decide +kernel
theorem dX6_lightOf_40 : decode cX6_lightOf 40 = .ok (.iload_n 3, 1) := by decide +kernel
theorem dX6_lightOf_41 : decode cX6_lightOf 41 = .ok (.ifCond .eq 40, 3) := by decide +kernel
theorem dX6_lightOf_44 : decode cX6_lightOf 44 = .ok (.iload 5, 2) := by decide +kernel
theorem dX6_lightOf_46 : decode cX6_lightOf 46 = .ok (.iload_n 1, 1) := by decide +kernel
theorem dX6_lightOf_47 : decode cX6_lightOf 47 = .ok (.if_icmp .eq 34, 3) := by decide +kernel
theorem dX6_lightOf_50 : decode cX6_lightOf 50 = .ok (.aload_n 0, 1) := by decide +kernel
theorem dX6_lightOf_51 : decode cX6_lightOf 51 = .ok (.iload 5, 2) := by decide +kernel
theorem dX6_lightOf_53 : decode cX6_lightOf 53 = .ok (.invokevirtual 73, 3) := by decide +kernel
theorem dX6_lightOf_56 : decode cX6_lightOf 56 = .ok (.iload_n 2, 1) := by decide +kernel
theorem dX6_lightOf_57 : decode cX6_lightOf 57 = .ok (.ishr, 1) := by decide +kernel
theorem dX6_lightOf_58 : decode cX6_lightOf 58 = .ok (.iconst 1, 1) := by decide +kernel
theorem dX6_lightOf_59 : decode cX6_lightOf 59 = .ok (.iand, 1) := by decide +kernel
theorem dX6_lightOf_60 : decode cX6_lightOf 60 = .ok (.iconst 1, 1) := by decide +kernel
theorem dX6_lightOf_61 : decode cX6_lightOf 61 = .ok (.if_icmp .ne 20, 3) := by decide +kernel
theorem dX6_lightOf_64 : decode cX6_lightOf 64 = .ok (.aload_n 0, 1) := by decide +kernel
theorem dX6_lightOf_65 : decode cX6_lightOf 65 = .ok (.iload_n 1, 1) := by decide +kernel
theorem dX6_lightOf_66 : decode cX6_lightOf 66 = .ok (.iconst 3, 1) := by decide +kernel
theorem dX6_lightOf_67 : decode cX6_lightOf 67 = .ok (.invokevirtual 62, 3) := by decide +kernel
theorem dX6_lightOf_70 : decode cX6_lightOf 70 = .ok (.iload_n 2, 1) := by decide +kernel
theorem dX6_lightOf_71 : decode cX6_lightOf 71 = .ok (.ishr, 1) := by decide +kernel
theorem dX6_lightOf_72 : decode cX6_lightOf 72 = .ok (.iconst 1, 1) := by decide +kernel
theorem dX6_lightOf_73 : decode cX6_lightOf 73 = .ok (.iand, 1) := by decide +kernel
theorem dX6_lightOf_74 : decode cX6_lightOf 74 = .ok (.ifCond .ne 7, 3) := by decide +kernel
theorem dX6_lightOf_77 : decode cX6_lightOf 77 = .ok (.iconst 1, 1) := by decide +kernel
theorem dX6_lightOf_78 : decode cX6_lightOf 78 = .ok (.goto 4, 3) := by decide +kernel
theorem dX6_lightOf_81 : decode cX6_lightOf 81 = .ok (.iconst 0, 1) := by decide +kernel
theorem dX6_lightOf_82 : decode cX6_lightOf 82 = .ok (.istore 6, 2) := by decide +kernel
theorem dX6_lightOf_84 : decode cX6_lightOf 84 = .ok (.iload 6, 2) := by decide +kernel
theorem dX6_lightOf_86 : decode cX6_lightOf 86 = .ok (.ifCond .eq 14, 3) := by decide +kernel
theorem dX6_lightOf_89 : decode cX6_lightOf 89 = .ok (.aload_n 0, 1) := by decide +kernel
theorem dX6_lightOf_90 : decode cX6_lightOf 90 = .ok (.iload 5, 2) := by decide +kernel
theorem dX6_lightOf_92 : decode cX6_lightOf 92 = .ok (.invokevirtual 82, 3) := by decide +kernel
theorem dX6_lightOf_95 : decode cX6_lightOf 95 = .ok (.iconst 4, 1) := by decide +kernel
theorem dX6_lightOf_96 : decode cX6_lightOf 96 = .ok (.idiv, 1) := by decide +kernel
theorem dX6_lightOf_97 : decode cX6_lightOf 97 = .ok (.goto 4, 3) := by decide +kernel
theorem dX6_lightOf_100 : decode cX6_lightOf 100 = .ok (.iconst 0, 1) := by decide +kernel
theorem dX6_lightOf_101 : decode cX6_lightOf 101 = .ok (.istore 7, 2) := by decide +kernel
theorem dX6_lightOf_103 : decode cX6_lightOf 103 = .ok (.iload 7, 2) := by decide +kernel
theorem dX6_lightOf_105 : decode cX6_lightOf 105 = .ok (.iload 4, 2) := by decide +kernel
theorem dX6_lightOf_107 : decode cX6_lightOf 107 = .ok (.if_icmp .le 8, 3) := by decide +kernel
theorem dX6_lightOf_110 : decode cX6_lightOf 110 = .ok (.iload 7, 2) := by decide +kernel
theorem dX6_lightOf_112 : decode cX6_lightOf 112 = .ok (.goto 5, 3) := by decide +kernel
theorem dX6_lightOf_115 : decode cX6_lightOf 115 = .ok (.iload 4, 2) := by decide +kernel
theorem dX6_lightOf_117 : decode cX6_lightOf 117 = .ok (.ireturn, 1) := by decide +kernel
theorem dX6_left_0 : decode cX6_left 0 = .ok (.iload_n 1, 1) := by decide +kernel
theorem dX6_left_1 : decode cX6_left 1 = .ok (.iload_n 1, 1) := by decide +kernel
theorem dX6_left_2 : decode cX6_left 2 = .ok (.aload_n 0, 1) := by decide +kernel
theorem dX6_left_3 : decode cX6_left 3 = .ok (.getfield 7, 3) := by decide +kernel
theorem dX6_left_6 : decode cX6_left 6 = .ok (.iconst 2, 1) := by decide +kernel
theorem dX6_left_7 : decode cX6_left 7 = .ok (.iaload, 1) := by decide +kernel
theorem dX6_left_8 : decode cX6_left 8 = .ok (.idiv, 1) := by decide +kernel
theorem dX6_left_9 : decode cX6_left 9 = .ok (.isub, 1) := by decide +kernel
theorem dX6_left_10 : decode cX6_left 10 = .ok (.iconst 1, 1) := by decide +kernel
theorem dX6_left_11 : decode cX6_left 11 = .ok (.isub, 1) := by decide +kernel
theorem dX6_left_12 : decode cX6_left 12 = .ok (.istore_n 2, 1) := by decide +kernel
theorem dX6_left_13 : decode cX6_left 13 = .ok (.iload_n 2, 1) := by decide +kernel
theorem dX6_left_14 : decode cX6_left 14 = .ok (.ifCond .ge 7, 3) := by decide +kernel
theorem dX6_left_17 : decode cX6_left 17 = .ok (.iconst 0, 1) := by decide +kernel
theorem dX6_left_18 : decode cX6_left 18 = .ok (.goto 4, 3) := by decide +kernel
theorem dX6_left_21 : decode cX6_left 21 = .ok (.iload_n 2, 1) := by decide +kernel
theorem dX6_left_22 : decode cX6_left 22 = .ok (.ireturn, 1) := by decide +kernel
theorem dX6_ticks_0 : decode cX6_ticks 0 = .ok (.aload_n 0, 1) := by decide +kernel
theorem dX6_ticks_1 : decode cX6_ticks 1 = .ok (.iload_n 1, 1) := by decide +kernel
theorem dX6_ticks_2 : decode cX6_ticks 2 = .ok (.invokevirtual 88, 3) := by decide +kernel
theorem dX6_ticks_5 : decode cX6_ticks 5 = .ok (.istore_n 2, 1) := by decide +kernel
theorem dX6_ticks_6 : decode cX6_ticks 6 = .ok (.iload_n 2, 1) := by decide +kernel
theorem dX6_ticks_7 : decode cX6_ticks 7 = .ok (.bipush 100, 2) := by decide +kernel
theorem dX6_ticks_9 : decode cX6_ticks 9 = .ok (.idiv, 1) := by decide +kernel
theorem dX6_ticks_10 : decode cX6_ticks 10 = .ok (.istore_n 3, 1) := by decide +kernel
theorem dX6_ticks_11 : decode cX6_ticks 11 = .ok (.iload_n 2, 1) := by decide +kernel
theorem dX6_ticks_12 : decode cX6_ticks 12 = .ok (.bipush 100, 2) := by decide +kernel
theorem dX6_ticks_14 : decode cX6_ticks 14 = .ok (.irem, 1) := by decide +kernel
theorem dX6_ticks_15 : decode cX6_ticks 15 = .ok (.istore 4, 2) := by decide +kernel
theorem dX6_ticks_17 : decode cX6_ticks 17 = .ok (.iconst 0, 1) := by decide +kernel
theorem dX6_ticks_18 : decode cX6_ticks 18 = .ok (.istore 5, 2) := by decide +kernel
theorem dX6_ticks_20 : decode cX6_ticks 20 = .ok (.iload 5, 2) := by decide +kernel
theorem dX6_ticks_22 : decode cX6_ticks 22 = .ok (.bipush 48, 2) := by decide +kernel
theorem dX6_ticks_24 : decode cX6_ticks 24 = .ok (.if_icmp .ge 107, 3) := by decide +kernel
theorem dX6_ticks_27 : decode cX6_ticks 27 = .ok (.iload 5, 2) := by decide +kernel
theorem dX6_ticks_29 : decode cX6_ticks 29 = .ok (.bipush 8, 2) := by decide +kernel
theorem dX6_ticks_31 : decode cX6_ticks 31 = .ok (.idiv, 1) := by decide +kernel
theorem dX6_ticks_32 : decode cX6_ticks 32 = .ok (.iload_n 3, 1) := by decide +kernel
theorem dX6_ticks_33 : decode cX6_ticks 33 = .ok (.if_icmp .ne 18, 3) := by decide +kernel
theorem dX6_ticks_36 : decode cX6_ticks 36 = .ok (.iload 4, 2) := by decide +kernel
theorem dX6_ticks_38 : decode cX6_ticks 38 = .ok (.aload_n 0, 1) := by decide +kernel
theorem dX6_ticks_39 : decode cX6_ticks 39 = .ok (.getfield 7, 3) := by decide +kernel
theorem dX6_ticks_42 : decode cX6_ticks 42 = .ok (.iconst 0, 1) := by decide +kernel
theorem dX6_ticks_43 : decode cX6_ticks 43 = .ok (.iaload, 1) := by decide +kernel
theorem dX6_ticks_44 : decode cX6_ticks 44 = .ok (.if_icmp .lt 7, 3) := by decide +kernel
theorem dX6_ticks_47 : decode cX6_ticks 47 = .ok (.iconst 1, 1) := by decide +kernel
theorem dX6_ticks_48 : decode cX6_ticks 48 = .ok (.goto 4, 3) := by decide +kernel
theorem dX6_ticks_51 : decode cX6_ticks 51 = .ok (.iconst 0, 1) := by decide +kernel
theorem dX6_ticks_52 : decode cX6_ticks 52 = .ok (.istore 6, 2) := by decide +kernel
theorem dX6_ticks_54 : decode cX6_ticks 54 = .ok (.iload 6, 2) := by decide +kernel
theorem dX6_ticks_56 : decode cX6_ticks 56 = .ok (.ifCond .eq 32, 3) := by decide +kernel
theorem dX6_ticks_59 : decode cX6_ticks 59 = .ok (.aload_n 0, 1) := by decide +kernel
theorem dX6_ticks_60 : decode cX6_ticks 60 = .ok (.iload_n 3, 1) := by decide +kernel
theorem dX6_ticks_61 : decode cX6_ticks 61 = .ok (.iload 5, 2) := by decide +kernel
theorem dX6_ticks_63 : decode cX6_ticks 63 = .ok (.bipush 8, 2) := by decide +kernel
theorem dX6_ticks_65 : decode cX6_ticks 65 = .ok (.irem, 1) := by decide +kernel
theorem dX6_ticks_66 : decode cX6_ticks 66 = .ok (.iload 4, 2) := by decide +kernel
theorem dX6_ticks_68 : decode cX6_ticks 68 = .ok (.aload_n 0, 1) := by decide +kernel
theorem dX6_ticks_69 : decode cX6_ticks 69 = .ok (.getfield 7, 3) := by decide +kernel
theorem dX6_ticks_72 : decode cX6_ticks 72 = .ok (.iconst 0, 1) := by decide +kernel
theorem dX6_ticks_73 : decode cX6_ticks 73 = .ok (.iaload, 1) := by decide +kernel
theorem dX6_ticks_74 : decode cX6_ticks 74 = .ok (.if_icmp .ne 7, 3) := by decide +kernel
theorem dX6_ticks_77 : decode cX6_ticks 77 = .ok (.iconst 1, 1) := by decide +kernel
theorem dX6_ticks_78 : decode cX6_ticks 78 = .ok (.goto 4, 3) := by decide +kernel
theorem dX6_ticks_81 : decode cX6_ticks 81 = .ok (.iconst 0, 1) := by decide +kernel
theorem dX6_ticks_82 : decode cX6_ticks 82 = .ok (.invokevirtual 91, 3) := by decide +kernel
theorem dX6_ticks_85 : decode cX6_ticks 85 = .ok (.goto 4, 3) := by decide +kernel
theorem dX6_ticks_88 : decode cX6_ticks 88 = .ok (.iconst 0, 1) := by decide +kernel
theorem dX6_ticks_89 : decode cX6_ticks 89 = .ok (.istore 7, 2) := by decide +kernel
theorem dX6_ticks_91 : decode cX6_ticks 91 = .ok (.aload_n 0, 1) := by decide +kernel
theorem dX6_ticks_92 : decode cX6_ticks 92 = .ok (.aload_n 0, 1) := by decide +kernel
theorem dX6_ticks_93 : decode cX6_ticks 93 = .ok (.getfield 32, 3) := by decide +kernel
theorem dX6_ticks_96 : decode cX6_ticks 96 = .ok (.iload 5, 2) := by decide +kernel
theorem dX6_ticks_98 : decode cX6_ticks 98 = .ok (.iaload, 1) := by decide +kernel
theorem dX6_ticks_99 : decode cX6_ticks 99 = .ok (.invokevirtual 95, 3) := by decide +kernel
theorem dX6_ticks_102 : decode cX6_ticks 102 = .ok (.istore 8, 2) := by decide +kernel
theorem dX6_ticks_104 : decode cX6_ticks 104 = .ok (.aload_n 0, 1) := by decide +kernel
theorem dX6_ticks_105 : decode cX6_ticks 105 = .ok (.getfield 32, 3) := by decide +kernel
theorem dX6_ticks_108 : decode cX6_ticks 108 = .ok (.iload 5, 2) := by decide +kernel
theorem dX6_ticks_110 : decode cX6_ticks 110 = .ok (.iload 7, 2) := by decide +kernel
theorem dX6_ticks_112 : decode cX6_ticks 112 = .ok (.iload 8, 2) := by decide +kernel
theorem dX6_ticks_114 : decode cX6_ticks 114 = .ok (.if_icmp .le 8, 3) := by decide +kernel
theorem dX6_ticks_117 : decode cX6_ticks 117 = .ok (.iload 7, 2) := by decide +kernel
theorem dX6_ticks_119 : decode cX6_ticks 119 = .ok (.goto 5, 3) := by decide +kernel
theorem dX6_ticks_122 : decode cX6_ticks 122 = .ok (.iload 8, 2) := by decide +kernel
theorem dX6_ticks_124 : decode cX6_ticks 124 = .ok (.iastore, 1) := by decide +kernel
theorem dX6_ticks_125 : decode cX6_ticks 125 = .ok (.iinc 5 1, 3) := by decide +kernel
theorem dX6_ticks_128 : decode cX6_ticks 128 = .ok (.goto (-108), 3) := by decide +kernel
theorem dX6_ticks_131 : decode cX6_ticks 131 = .ok (.return_, 1) := by decide +kernel
theorem dX6_copiesGlows_0 : decode cX6_copiesGlows 0 = .ok (.iconst 0, 1) := by decide +kernel
theorem dX6_copiesGlows_1 : decode cX6_copiesGlows 1 = .ok (.istore_n 1, 1) := by decide +kernel
theorem dX6_copiesGlows_2 : decode cX6_copiesGlows 2 = .ok (.iload_n 1, 1) := by decide +kernel
theorem dX6_copiesGlows_3 : decode cX6_copiesGlows 3 = .ok (.bipush 48, 2) := by decide +kernel
theorem dX6_copiesGlows_5 : decode cX6_copiesGlows 5 = .ok (.if_icmp .ge 24, 3) := by decide +kernel
theorem dX6_copiesGlows_8 : decode cX6_copiesGlows 8 = .ok (.aload_n 0, 1) := by decide +kernel
theorem dX6_copiesGlows_9 : decode cX6_copiesGlows 9 = .ok (.getfield 32, 3) := by decide +kernel
theorem dX6_copiesGlows_12 : decode cX6_copiesGlows 12 = .ok (.iload_n 1, 1) := by decide +kernel
theorem dX6_copiesGlows_13 : decode cX6_copiesGlows 13 = .ok (.aload_n 0, 1) := by decide +kernel
theorem dX6_copiesGlows_14 : decode cX6_copiesGlows 14 = .ok (.getfield 7, 3) := by decide +kernel
theorem dX6_copiesGlows_17 : decode cX6_copiesGlows 17 = .ok (.bipush 32, 2) := by decide +kernel
theorem dX6_copiesGlows_19 : decode cX6_copiesGlows 19 = .ok (.iload_n 1, 1) := by decide +kernel
theorem dX6_copiesGlows_20 : decode cX6_copiesGlows 20 = .ok (.iadd, 1) := by decide +kernel
theorem dX6_copiesGlows_21 : decode cX6_copiesGlows 21 = .ok (.iaload, 1) := by decide +kernel
theorem dX6_copiesGlows_22 : decode cX6_copiesGlows 22 = .ok (.iastore, 1) := by decide +kernel
theorem dX6_copiesGlows_23 : decode cX6_copiesGlows 23 = .ok (.iinc 1 1, 3) := by decide +kernel
theorem dX6_copiesGlows_26 : decode cX6_copiesGlows 26 = .ok (.goto (-24), 3) := by decide +kernel
theorem dX6_copiesGlows_29 : decode cX6_copiesGlows 29 = .ok (.return_, 1) := by decide +kernel
theorem dX6_views_0 : decode cX6_views 0 = .ok (.aload_n 0, 1) := by decide +kernel
theorem dX6_views_1 : decode cX6_views 1 = .ok (.invokevirtual 98, 3) := by decide +kernel
theorem dX6_views_4 : decode cX6_views 4 = .ok (.istore_n 1, 1) := by decide +kernel
theorem dX6_views_5 : decode cX6_views 5 = .ok (.aload_n 0, 1) := by decide +kernel
theorem dX6_views_6 : decode cX6_views 6 = .ok (.invokevirtual 102, 3) := by decide +kernel
theorem dX6_views_9 : decode cX6_views 9 = .ok (.iconst 0, 1) := by decide +kernel
theorem dX6_views_10 : decode cX6_views 10 = .ok (.istore_n 2, 1) := by decide +kernel
theorem dX6_views_11 : decode cX6_views 11 = .ok (.iload_n 2, 1) := by decide +kernel
theorem dX6_views_12 : decode cX6_views 12 = .ok (.bipush 48, 2) := by decide +kernel
theorem dX6_views_14 : decode cX6_views 14 = .ok (.if_icmp .ge 30, 3) := by decide +kernel
theorem dX6_views_17 : decode cX6_views 17 = .ok (.aload_n 0, 1) := by decide +kernel
theorem dX6_views_18 : decode cX6_views 18 = .ok (.getfield 35, 3) := by decide +kernel
theorem dX6_views_21 : decode cX6_views 21 = .ok (.iload_n 2, 1) := by decide +kernel
theorem dX6_views_22 : decode cX6_views 22 = .ok (.iconst 0, 1) := by decide +kernel
theorem dX6_views_23 : decode cX6_views 23 = .ok (.iastore, 1) := by decide +kernel
theorem dX6_views_24 : decode cX6_views 24 = .ok (.aload_n 0, 1) := by decide +kernel
theorem dX6_views_25 : decode cX6_views 25 = .ok (.getfield 38, 3) := by decide +kernel
theorem dX6_views_28 : decode cX6_views 28 = .ok (.iload_n 2, 1) := by decide +kernel
theorem dX6_views_29 : decode cX6_views 29 = .ok (.iconst 0, 1) := by decide +kernel
theorem dX6_views_30 : decode cX6_views 30 = .ok (.iastore, 1) := by decide +kernel
theorem dX6_views_31 : decode cX6_views 31 = .ok (.aload_n 0, 1) := by decide +kernel
theorem dX6_views_32 : decode cX6_views 32 = .ok (.getfield 41, 3) := by decide +kernel
theorem dX6_views_35 : decode cX6_views 35 = .ok (.iload_n 2, 1) := by decide +kernel
theorem dX6_views_36 : decode cX6_views 36 = .ok (.iconst 0, 1) := by decide +kernel
theorem dX6_views_37 : decode cX6_views 37 = .ok (.iastore, 1) := by decide +kernel
theorem dX6_views_38 : decode cX6_views 38 = .ok (.iinc 2 1, 3) := by decide +kernel
theorem dX6_views_41 : decode cX6_views 41 = .ok (.goto (-30), 3) := by decide +kernel
theorem dX6_views_44 : decode cX6_views 44 = .ok (.iconst 0, 1) := by decide +kernel
theorem dX6_views_45 : decode cX6_views 45 = .ok (.istore_n 2, 1) := by decide +kernel
theorem dX6_views_46 : decode cX6_views 46 = .ok (.iload_n 2, 1) := by decide +kernel
theorem dX6_views_47 : decode cX6_views 47 = .ok (.bipush 8, 2) := by decide +kernel
theorem dX6_views_49 : decode cX6_views 49 = .ok (.iload_n 1, 1) := by decide +kernel
theorem dX6_views_50 : decode cX6_views 50 = .ok (.imul, 1) := by decide +kernel
theorem dX6_views_51 : decode cX6_views 51 = .ok (.if_icmp .ge 150, 3) := by decide +kernel
theorem dX6_views_54 : decode cX6_views 54 = .ok (.aload_n 0, 1) := by decide +kernel
theorem dX6_views_55 : decode cX6_views 55 = .ok (.iload_n 2, 1) := by decide +kernel
theorem dX6_views_56 : decode cX6_views 56 = .ok (.iload_n 1, 1) := by decide +kernel
theorem dX6_views_57 : decode cX6_views 57 = .ok (.irem, 1) := by decide +kernel
theorem dX6_views_58 : decode cX6_views 58 = .ok (.invokevirtual 105, 3) := by decide +kernel
theorem dX6_views_61 : decode cX6_views 61 = .ok (.iload_n 2, 1) := by decide +kernel
theorem dX6_views_62 : decode cX6_views 62 = .ok (.bipush 7, 2) := by decide +kernel
theorem dX6_views_64 : decode cX6_views 64 = .ok (.iload_n 1, 1) := by decide +kernel
theorem dX6_views_65 : decode cX6_views 65 = .ok (.imul, 1) := by decide +kernel
theorem dX6_views_66 : decode cX6_views 66 = .ok (.isub, 1) := by decide +kernel
theorem dX6_views_67 : decode cX6_views 67 = .ok (.istore_n 3, 1) := by decide +kernel
theorem dX6_views_68 : decode cX6_views 68 = .ok (.iconst 0, 1) := by decide +kernel
theorem dX6_views_69 : decode cX6_views 69 = .ok (.istore 4, 2) := by decide +kernel
theorem dX6_views_71 : decode cX6_views 71 = .ok (.iload 4, 2) := by decide +kernel
theorem dX6_views_73 : decode cX6_views 73 = .ok (.bipush 48, 2) := by decide +kernel
theorem dX6_views_75 : decode cX6_views 75 = .ok (.if_icmp .ge 120, 3) := by decide +kernel
theorem dX6_views_78 : decode cX6_views 78 = .ok (.iload_n 3, 1) := by decide +kernel
theorem dX6_views_79 : decode cX6_views 79 = .ok (.ifCond .lt 116, 3) := by decide +kernel
theorem dX6_views_82 : decode cX6_views 82 = .ok (.aload_n 0, 1) := by decide +kernel
theorem dX6_views_83 : decode cX6_views 83 = .ok (.getfield 35, 3) := by decide +kernel
theorem dX6_views_86 : decode cX6_views 86 = .ok (.iload 4, 2) := by decide +kernel
theorem dX6_views_88 : decode cX6_views 88 = .ok (.dup2, 1) := by decide +kernel
theorem dX6_views_89 : decode cX6_views 89 = .ok (.iaload, 1) := by decide +kernel
theorem dX6_views_90 : decode cX6_views 90 = .ok (.aload_n 0, 1) := by decide +kernel
theorem dX6_views_91 : decode cX6_views 91 = .ok (.getfield 32, 3) := by decide +kernel
theorem dX6_views_94 : decode cX6_views 94 = .ok (.iload 4, 2) := by decide +kernel
theorem dX6_views_96 : decode cX6_views 96 = .ok (.iaload, 1) := by decide +kernel
theorem dX6_views_97 : decode cX6_views 97 = .ok (.iadd, 1) := by decide +kernel
theorem dX6_views_98 : decode cX6_views 98 = .ok (.iastore, 1) := by decide +kernel
theorem dX6_views_99 : decode cX6_views 99 = .ok (.aload_n 0, 1) := by decide +kernel
theorem dX6_views_100 : decode cX6_views 100 = .ok (.getfield 38, 3) := by decide +kernel
theorem dX6_views_103 : decode cX6_views 103 = .ok (.iload 4, 2) := by decide +kernel
theorem dX6_views_105 : decode cX6_views 105 = .ok (.iload_n 3, 1) := by decide +kernel
theorem dX6_views_106 : decode cX6_views 106 = .ok (.ifCond .eq 20, 3) := by decide +kernel
theorem dX6_views_109 : decode cX6_views 109 = .ok (.aload_n 0, 1) := by decide +kernel
theorem dX6_views_110 : decode cX6_views 110 = .ok (.getfield 32, 3) := by decide +kernel
theorem dX6_views_113 : decode cX6_views 113 = .ok (.iload 4, 2) := by decide +kernel
theorem dX6_views_115 : decode cX6_views 115 = .ok (.iaload, 1) := by decide +kernel
theorem dX6_views_116 : decode cX6_views 116 = .ok (.aload_n 0, 1) := by decide +kernel
theorem dX6_views_117 : decode cX6_views 117 = .ok (.getfield 38, 3) := by decide +kernel
theorem dX6_views_120 : decode cX6_views 120 = .ok (.iload 4, 2) := by decide +kernel
theorem dX6_views_122 : decode cX6_views 122 = .ok (.iaload, 1) := by decide +kernel
theorem dX6_views_123 : decode cX6_views 123 = .ok (.if_icmp .le 13, 3) := by decide +kernel
theorem dX6_views_126 : decode cX6_views 126 = .ok (.aload_n 0, 1) := by decide +kernel
theorem dX6_views_127 : decode cX6_views 127 = .ok (.getfield 32, 3) := by decide +kernel
theorem dX6_views_130 : decode cX6_views 130 = .ok (.iload 4, 2) := by decide +kernel
theorem dX6_views_132 : decode cX6_views 132 = .ok (.iaload, 1) := by decide +kernel
theorem dX6_views_133 : decode cX6_views 133 = .ok (.goto 10, 3) := by decide +kernel
theorem dX6_views_136 : decode cX6_views 136 = .ok (.aload_n 0, 1) := by decide +kernel
theorem dX6_views_137 : decode cX6_views 137 = .ok (.getfield 38, 3) := by decide +kernel
theorem dX6_views_140 : decode cX6_views 140 = .ok (.iload 4, 2) := by decide +kernel
theorem dX6_views_142 : decode cX6_views 142 = .ok (.iaload, 1) := by decide +kernel
theorem dX6_views_143 : decode cX6_views 143 = .ok (.iastore, 1) := by decide +kernel
theorem dX6_views_144 : decode cX6_views 144 = .ok (.aload_n 0, 1) := by decide +kernel
theorem dX6_views_145 : decode cX6_views 145 = .ok (.getfield 41, 3) := by decide +kernel
theorem dX6_views_148 : decode cX6_views 148 = .ok (.iload 4, 2) := by decide +kernel
theorem dX6_views_150 : decode cX6_views 150 = .ok (.iload_n 3, 1) := by decide +kernel
theorem dX6_views_151 : decode cX6_views 151 = .ok (.ifCond .eq 20, 3) := by decide +kernel
theorem dX6_views_154 : decode cX6_views 154 = .ok (.aload_n 0, 1) := by decide +kernel
theorem dX6_views_155 : decode cX6_views 155 = .ok (.getfield 32, 3) := by decide +kernel
theorem dX6_views_158 : decode cX6_views 158 = .ok (.iload 4, 2) := by decide +kernel
theorem dX6_views_160 : decode cX6_views 160 = .ok (.iaload, 1) := by decide +kernel
theorem dX6_views_161 : decode cX6_views 161 = .ok (.aload_n 0, 1) := by decide +kernel
theorem dX6_views_162 : decode cX6_views 162 = .ok (.getfield 41, 3) := by decide +kernel
theorem dX6_views_165 : decode cX6_views 165 = .ok (.iload 4, 2) := by decide +kernel
theorem dX6_views_167 : decode cX6_views 167 = .ok (.iaload, 1) := by decide +kernel
theorem dX6_views_168 : decode cX6_views 168 = .ok (.if_icmp .ge 13, 3) := by decide +kernel
theorem dX6_views_171 : decode cX6_views 171 = .ok (.aload_n 0, 1) := by decide +kernel
theorem dX6_views_172 : decode cX6_views 172 = .ok (.getfield 32, 3) := by decide +kernel
theorem dX6_views_175 : decode cX6_views 175 = .ok (.iload 4, 2) := by decide +kernel
theorem dX6_views_177 : decode cX6_views 177 = .ok (.iaload, 1) := by decide +kernel
theorem dX6_views_178 : decode cX6_views 178 = .ok (.goto 10, 3) := by decide +kernel
theorem dX6_views_181 : decode cX6_views 181 = .ok (.aload_n 0, 1) := by decide +kernel
theorem dX6_views_182 : decode cX6_views 182 = .ok (.getfield 41, 3) := by decide +kernel
theorem dX6_views_185 : decode cX6_views 185 = .ok (.iload 4, 2) := by decide +kernel
theorem dX6_views_187 : decode cX6_views 187 = .ok (.iaload, 1) := by decide +kernel
theorem dX6_views_188 : decode cX6_views 188 = .ok (.iastore, 1) := by decide +kernel
theorem dX6_views_189 : decode cX6_views 189 = .ok (.iinc 4 1, 3) := by decide +kernel
theorem dX6_views_192 : decode cX6_views 192 = .ok (.goto (-121), 3) := by decide +kernel
theorem dX6_views_195 : decode cX6_views 195 = .ok (.iinc 2 1, 3) := by decide +kernel
theorem dX6_views_198 : decode cX6_views 198 = .ok (.goto (-152), 3) := by decide +kernel
theorem dX6_views_201 : decode cX6_views 201 = .ok (.return_, 1) := by decide +kernel
theorem dX6_brightness_0 : decode cX6_brightness 0 = .ok (.aload_n 0, 1) := by decide +kernel
theorem dX6_brightness_1 : decode cX6_brightness 1 = .ok (.invokevirtual 98, 3) := by decide +kernel
theorem dX6_brightness_4 : decode cX6_brightness 4 = .ok (.istore_n 3, 1) := by decide +kernel
theorem dX6_brightness_5 : decode cX6_brightness 5 = .ok (.iload_n 3, 1) := by decide +kernel
theorem dX6_brightness_6 : decode cX6_brightness 6 = .ok (.ifCond .ne 7, 3) := by decide +kernel
theorem dX6_brightness_9 : decode cX6_brightness 9 = .ok (.iconst 0, 1) := by decide +kernel
theorem dX6_brightness_10 : decode cX6_brightness 10 = .ok (.goto 16, 3) := by decide +kernel
theorem dX6_brightness_13 : decode cX6_brightness 13 = .ok (.aload_n 0, 1) := by decide +kernel
theorem dX6_brightness_14 : decode cX6_brightness 14 = .ok (.getfield 35, 3) := by decide +kernel
theorem dX6_brightness_17 : decode cX6_brightness 17 = .ok (.bipush 8, 2) := by decide +kernel
theorem dX6_brightness_19 : decode cX6_brightness 19 = .ok (.iload_n 1, 1) := by decide +kernel
theorem dX6_brightness_20 : decode cX6_brightness 20 = .ok (.imul, 1) := by decide +kernel
theorem dX6_brightness_21 : decode cX6_brightness 21 = .ok (.iload_n 2, 1) := by decide +kernel
theorem dX6_brightness_22 : decode cX6_brightness 22 = .ok (.iadd, 1) := by decide +kernel
theorem dX6_brightness_23 : decode cX6_brightness 23 = .ok (.iaload, 1) := by decide +kernel
theorem dX6_brightness_24 : decode cX6_brightness 24 = .ok (.iload_n 3, 1) := by decide +kernel
theorem dX6_brightness_25 : decode cX6_brightness 25 = .ok (.idiv, 1) := by decide +kernel
theorem dX6_brightness_26 : decode cX6_brightness 26 = .ok (.ireturn, 1) := by decide +kernel
theorem dX6_seenOf_0 : decode cX6_seenOf 0 = .ok (.iconst 0, 1) := by decide +kernel
theorem dX6_seenOf_1 : decode cX6_seenOf 1 = .ok (.istore_n 2, 1) := by decide +kernel
theorem dX6_seenOf_2 : decode cX6_seenOf 2 = .ok (.iconst 0, 1) := by decide +kernel
theorem dX6_seenOf_3 : decode cX6_seenOf 3 = .ok (.istore_n 3, 1) := by decide +kernel
theorem dX6_seenOf_4 : decode cX6_seenOf 4 = .ok (.iload_n 3, 1) := by decide +kernel
theorem dX6_seenOf_5 : decode cX6_seenOf 5 = .ok (.bipush 8, 2) := by decide +kernel
theorem dX6_seenOf_7 : decode cX6_seenOf 7 = .ok (.if_icmp .ge 34, 3) := by decide +kernel
theorem dX6_seenOf_10 : decode cX6_seenOf 10 = .ok (.iload_n 2, 1) := by decide +kernel
theorem dX6_seenOf_11 : decode cX6_seenOf 11 = .ok (.aload_n 0, 1) := by decide +kernel
theorem dX6_seenOf_12 : decode cX6_seenOf 12 = .ok (.iload_n 1, 1) := by decide +kernel
theorem dX6_seenOf_13 : decode cX6_seenOf 13 = .ok (.iload_n 3, 1) := by decide +kernel
theorem dX6_seenOf_14 : decode cX6_seenOf 14 = .ok (.invokevirtual 109, 3) := by decide +kernel
theorem dX6_seenOf_17 : decode cX6_seenOf 17 = .ok (.aload_n 0, 1) := by decide +kernel
theorem dX6_seenOf_18 : decode cX6_seenOf 18 = .ok (.getfield 7, 3) := by decide +kernel
theorem dX6_seenOf_21 : decode cX6_seenOf 21 = .ok (.iconst 3, 1) := by decide +kernel
theorem dX6_seenOf_22 : decode cX6_seenOf 22 = .ok (.iaload, 1) := by decide +kernel
theorem dX6_seenOf_23 : decode cX6_seenOf 23 = .ok (.if_icmp .lt 9, 3) := by decide +kernel
theorem dX6_seenOf_26 : decode cX6_seenOf 26 = .ok (.iconst 1, 1) := by decide +kernel
theorem dX6_seenOf_27 : decode cX6_seenOf 27 = .ok (.iload_n 3, 1) := by decide +kernel
theorem dX6_seenOf_28 : decode cX6_seenOf 28 = .ok (.ishl, 1) := by decide +kernel
theorem dX6_seenOf_29 : decode cX6_seenOf 29 = .ok (.goto 4, 3) := by decide +kernel
theorem dX6_seenOf_32 : decode cX6_seenOf 32 = .ok (.iconst 0, 1) := by decide +kernel
theorem dX6_seenOf_33 : decode cX6_seenOf 33 = .ok (.ior, 1) := by decide +kernel
theorem dX6_seenOf_34 : decode cX6_seenOf 34 = .ok (.istore_n 2, 1) := by decide +kernel
theorem dX6_seenOf_35 : decode cX6_seenOf 35 = .ok (.iinc 3 1, 3) := by decide +kernel
theorem dX6_seenOf_38 : decode cX6_seenOf 38 = .ok (.goto (-34), 3) := by decide +kernel
theorem dX6_seenOf_41 : decode cX6_seenOf 41 = .ok (.iload_n 2, 1) := by decide +kernel
theorem dX6_seenOf_42 : decode cX6_seenOf 42 = .ok (.ireturn, 1) := by decide +kernel
theorem dX6_readOf_0 : decode cX6_readOf 0 = .ok (.aload_n 0, 1) := by decide +kernel
theorem dX6_readOf_1 : decode cX6_readOf 1 = .ok (.iload_n 1, 1) := by decide +kernel
theorem dX6_readOf_2 : decode cX6_readOf 2 = .ok (.invokevirtual 112, 3) := by decide +kernel
theorem dX6_readOf_5 : decode cX6_readOf 5 = .ok (.bipush 127, 2) := by decide +kernel
theorem dX6_readOf_7 : decode cX6_readOf 7 = .ok (.iand, 1) := by decide +kernel
theorem dX6_readOf_8 : decode cX6_readOf 8 = .ok (.istore_n 2, 1) := by decide +kernel
theorem dX6_readOf_9 : decode cX6_readOf 9 = .ok (.iconst 0, 1) := by decide +kernel
theorem dX6_readOf_10 : decode cX6_readOf 10 = .ok (.istore_n 3, 1) := by decide +kernel
theorem dX6_readOf_11 : decode cX6_readOf 11 = .ok (.iload_n 3, 1) := by decide +kernel
theorem dX6_readOf_12 : decode cX6_readOf 12 = .ok (.bipush 18, 2) := by decide +kernel
theorem dX6_readOf_14 : decode cX6_readOf 14 = .ok (.if_icmp .ge 19, 3) := by decide +kernel
theorem dX6_readOf_17 : decode cX6_readOf 17 = .ok (.iload_n 3, 1) := by decide +kernel
theorem dX6_readOf_18 : decode cX6_readOf 18 = .ok (.invokestatic 66, 3) := by decide +kernel
theorem dX6_readOf_21 : decode cX6_readOf 21 = .ok (.iload_n 2, 1) := by decide +kernel
theorem dX6_readOf_22 : decode cX6_readOf 22 = .ok (.if_icmp .ne 5, 3) := by decide +kernel
theorem dX6_readOf_25 : decode cX6_readOf 25 = .ok (.iload_n 3, 1) := by decide +kernel
theorem dX6_readOf_26 : decode cX6_readOf 26 = .ok (.ireturn, 1) := by decide +kernel
theorem dX6_readOf_27 : decode cX6_readOf 27 = .ok (.iinc 3 1, 3) := by decide +kernel
theorem dX6_readOf_30 : decode cX6_readOf 30 = .ok (.goto (-19), 3) := by decide +kernel
theorem dX6_readOf_33 : decode cX6_readOf 33 = .ok (.iconst (-1), 1) := by decide +kernel
theorem dX6_readOf_34 : decode cX6_readOf 34 = .ok (.ireturn, 1) := by decide +kernel
theorem dX6_meanOf_0 : decode cX6_meanOf 0 = .ok (.aload_n 0, 1) := by decide +kernel
theorem dX6_meanOf_1 : decode cX6_meanOf 1 = .ok (.iload_n 1, 1) := by decide +kernel
theorem dX6_meanOf_2 : decode cX6_meanOf 2 = .ok (.invokevirtual 73, 3) := by decide +kernel
theorem dX6_meanOf_5 : decode cX6_meanOf 5 = .ok (.istore_n 2, 1) := by decide +kernel
theorem dX6_meanOf_6 : decode cX6_meanOf 6 = .ok (.iconst 0, 1) := by decide +kernel
theorem dX6_meanOf_7 : decode cX6_meanOf 7 = .ok (.istore_n 3, 1) := by decide +kernel
theorem dX6_meanOf_8 : decode cX6_meanOf 8 = .ok (.iconst 0, 1) := by decide +kernel
theorem dX6_meanOf_9 : decode cX6_meanOf 9 = .ok (.istore 4, 2) := by decide +kernel
theorem dX6_meanOf_11 : decode cX6_meanOf 11 = .ok (.iload 4, 2) := by decide +kernel
theorem dX6_meanOf_13 : decode cX6_meanOf 13 = .ok (.bipush 8, 2) := by decide +kernel
theorem dX6_meanOf_15 : decode cX6_meanOf 15 = .ok (.if_icmp .ge 33, 3) := by decide +kernel
theorem dX6_meanOf_18 : decode cX6_meanOf 18 = .ok (.iload_n 3, 1) := by decide +kernel
theorem dX6_meanOf_19 : decode cX6_meanOf 19 = .ok (.iload_n 2, 1) := by decide +kernel
theorem dX6_meanOf_20 : decode cX6_meanOf 20 = .ok (.iload 4, 2) := by decide +kernel
theorem dX6_meanOf_22 : decode cX6_meanOf 22 = .ok (.ishr, 1) := by decide +kernel
theorem dX6_meanOf_23 : decode cX6_meanOf 23 = .ok (.iconst 1, 1) := by decide +kernel
theorem dX6_meanOf_24 : decode cX6_meanOf 24 = .ok (.iand, 1) := by decide +kernel
theorem dX6_meanOf_25 : decode cX6_meanOf 25 = .ok (.iconst 1, 1) := by decide +kernel
theorem dX6_meanOf_26 : decode cX6_meanOf 26 = .ok (.if_icmp .ne 13, 3) := by decide +kernel
theorem dX6_meanOf_29 : decode cX6_meanOf 29 = .ok (.aload_n 0, 1) := by decide +kernel
theorem dX6_meanOf_30 : decode cX6_meanOf 30 = .ok (.iload_n 1, 1) := by decide +kernel
theorem dX6_meanOf_31 : decode cX6_meanOf 31 = .ok (.iload 4, 2) := by decide +kernel
theorem dX6_meanOf_33 : decode cX6_meanOf 33 = .ok (.invokevirtual 109, 3) := by decide +kernel
theorem dX6_meanOf_36 : decode cX6_meanOf 36 = .ok (.goto 4, 3) := by decide +kernel
theorem dX6_meanOf_39 : decode cX6_meanOf 39 = .ok (.iconst 0, 1) := by decide +kernel
theorem dX6_meanOf_40 : decode cX6_meanOf 40 = .ok (.iadd, 1) := by decide +kernel
theorem dX6_meanOf_41 : decode cX6_meanOf 41 = .ok (.istore_n 3, 1) := by decide +kernel
theorem dX6_meanOf_42 : decode cX6_meanOf 42 = .ok (.iinc 4 1, 3) := by decide +kernel
theorem dX6_meanOf_45 : decode cX6_meanOf 45 = .ok (.goto (-34), 3) := by decide +kernel
theorem dX6_meanOf_48 : decode cX6_meanOf 48 = .ok (.iload_n 2, 1) := by decide +kernel
theorem dX6_meanOf_49 : decode cX6_meanOf 49 = .ok (.ifCond .ne 7, 3) := by decide +kernel
theorem dX6_meanOf_52 : decode cX6_meanOf 52 = .ok (.iconst 0, 1) := by decide +kernel
theorem dX6_meanOf_53 : decode cX6_meanOf 53 = .ok (.goto 9, 3) := by decide +kernel
theorem dX6_meanOf_56 : decode cX6_meanOf 56 = .ok (.iload_n 3, 1) := by decide +kernel
theorem dX6_meanOf_57 : decode cX6_meanOf 57 = .ok (.iload_n 2, 1) := by decide +kernel
theorem dX6_meanOf_58 : decode cX6_meanOf 58 = .ok (.invokestatic 76, 3) := by decide +kernel
theorem dX6_meanOf_61 : decode cX6_meanOf 61 = .ok (.idiv, 1) := by decide +kernel
theorem dX6_meanOf_62 : decode cX6_meanOf 62 = .ok (.ireturn, 1) := by decide +kernel
theorem dX6_show_0 : decode cX6_show 0 = .ok (.aload_n 0, 1) := by decide +kernel
theorem dX6_show_1 : decode cX6_show 1 = .ok (.iconst 0, 1) := by decide +kernel
theorem dX6_show_2 : decode cX6_show 2 = .ok (.putfield 47, 3) := by decide +kernel
theorem dX6_show_5 : decode cX6_show 5 = .ok (.iload_n 1, 1) := by decide +kernel
theorem dX6_show_6 : decode cX6_show 6 = .ok (.invokestatic 115, 3) := by decide +kernel
theorem dX6_show_9 : decode cX6_show 9 = .ok (.ifCond .ne 9, 3) := by decide +kernel
theorem dX6_show_12 : decode cX6_show 12 = .ok (.aload_n 0, 1) := by decide +kernel
theorem dX6_show_13 : decode cX6_show 13 = .ok (.iconst 1, 1) := by decide +kernel
theorem dX6_show_14 : decode cX6_show 14 = .ok (.invokevirtual 119, 3) := by decide +kernel
theorem dX6_show_17 : decode cX6_show 17 = .ok (.ireturn, 1) := by decide +kernel
theorem dX6_show_18 : decode cX6_show 18 = .ok (.iload_n 2, 1) := by decide +kernel
theorem dX6_show_19 : decode cX6_show 19 = .ok (.iconst 0, 1) := by decide +kernel
theorem dX6_show_20 : decode cX6_show 20 = .ok (.bipush 17, 2) := by decide +kernel
theorem dX6_show_22 : decode cX6_show 22 = .ok (.invokestatic 55, 3) := by decide +kernel
theorem dX6_show_25 : decode cX6_show 25 = .ok (.ifCond .ne 9, 3) := by decide +kernel
theorem dX6_show_28 : decode cX6_show 28 = .ok (.aload_n 0, 1) := by decide +kernel
theorem dX6_show_29 : decode cX6_show 29 = .ok (.iconst 2, 1) := by decide +kernel
theorem dX6_show_30 : decode cX6_show 30 = .ok (.invokevirtual 119, 3) := by decide +kernel
theorem dX6_show_33 : decode cX6_show 33 = .ok (.ireturn, 1) := by decide +kernel
theorem dX6_show_34 : decode cX6_show 34 = .ok (.aload_n 0, 1) := by decide +kernel
theorem dX6_show_35 : decode cX6_show 35 = .ok (.invokevirtual 122, 3) := by decide +kernel
theorem dX6_show_38 : decode cX6_show 38 = .ok (.aload_n 0, 1) := by decide +kernel
theorem dX6_show_39 : decode cX6_show 39 = .ok (.iload_n 1, 1) := by decide +kernel
theorem dX6_show_40 : decode cX6_show 40 = .ok (.iconst 0, 1) := by decide +kernel
theorem dX6_show_41 : decode cX6_show 41 = .ok (.invokevirtual 62, 3) := by decide +kernel
theorem dX6_show_44 : decode cX6_show 44 = .ok (.istore_n 3, 1) := by decide +kernel
theorem dX6_show_45 : decode cX6_show 45 = .ok (.aload_n 0, 1) := by decide +kernel
theorem dX6_show_46 : decode cX6_show 46 = .ok (.iload_n 1, 1) := by decide +kernel
theorem dX6_show_47 : decode cX6_show 47 = .ok (.iconst 0, 1) := by decide +kernel
theorem dX6_show_48 : decode cX6_show 48 = .ok (.iload_n 2, 1) := by decide +kernel
theorem dX6_show_49 : decode cX6_show 49 = .ok (.invokevirtual 51, 3) := by decide +kernel
theorem dX6_show_52 : decode cX6_show 52 = .ok (.iload_n 3, 1) := by decide +kernel
theorem dX6_show_53 : decode cX6_show 53 = .ok (.ireturn, 1) := by decide +kernel
theorem dX6_dot_0 : decode cX6_dot 0 = .ok (.aload_n 0, 1) := by decide +kernel
theorem dX6_dot_1 : decode cX6_dot 1 = .ok (.iconst 0, 1) := by decide +kernel
theorem dX6_dot_2 : decode cX6_dot 2 = .ok (.putfield 47, 3) := by decide +kernel
theorem dX6_dot_5 : decode cX6_dot 5 = .ok (.iload_n 1, 1) := by decide +kernel
theorem dX6_dot_6 : decode cX6_dot 6 = .ok (.invokestatic 115, 3) := by decide +kernel
theorem dX6_dot_9 : decode cX6_dot 9 = .ok (.ifCond .ne 9, 3) := by decide +kernel
theorem dX6_dot_12 : decode cX6_dot 12 = .ok (.aload_n 0, 1) := by decide +kernel
theorem dX6_dot_13 : decode cX6_dot 13 = .ok (.iconst 1, 1) := by decide +kernel
theorem dX6_dot_14 : decode cX6_dot 14 = .ok (.invokevirtual 119, 3) := by decide +kernel
theorem dX6_dot_17 : decode cX6_dot 17 = .ok (.ireturn, 1) := by decide +kernel
theorem dX6_dot_18 : decode cX6_dot 18 = .ok (.aload_n 0, 1) := by decide +kernel
theorem dX6_dot_19 : decode cX6_dot 19 = .ok (.invokevirtual 122, 3) := by decide +kernel
theorem dX6_dot_22 : decode cX6_dot 22 = .ok (.aload_n 0, 1) := by decide +kernel
theorem dX6_dot_23 : decode cX6_dot 23 = .ok (.iload_n 1, 1) := by decide +kernel
theorem dX6_dot_24 : decode cX6_dot 24 = .ok (.iconst 1, 1) := by decide +kernel
theorem dX6_dot_25 : decode cX6_dot 25 = .ok (.iconst 1, 1) := by decide +kernel
theorem dX6_dot_26 : decode cX6_dot 26 = .ok (.aload_n 0, 1) := by decide +kernel
theorem dX6_dot_27 : decode cX6_dot 27 = .ok (.iload_n 1, 1) := by decide +kernel
theorem dX6_dot_28 : decode cX6_dot 28 = .ok (.iconst 1, 1) := by decide +kernel
theorem dX6_dot_29 : decode cX6_dot 29 = .ok (.invokevirtual 62, 3) := by decide +kernel
theorem dX6_dot_32 : decode cX6_dot 32 = .ok (.isub, 1) := by decide +kernel
theorem dX6_dot_33 : decode cX6_dot 33 = .ok (.invokevirtual 51, 3) := by decide +kernel
theorem dX6_dot_36 : decode cX6_dot 36 = .ok (.aload_n 0, 1) := by decide +kernel
theorem dX6_dot_37 : decode cX6_dot 37 = .ok (.iload_n 1, 1) := by decide +kernel
theorem dX6_dot_38 : decode cX6_dot 38 = .ok (.iconst 1, 1) := by decide +kernel
theorem dX6_dot_39 : decode cX6_dot 39 = .ok (.invokevirtual 62, 3) := by decide +kernel
theorem dX6_dot_42 : decode cX6_dot 42 = .ok (.ireturn, 1) := by decide +kernel
theorem dX6_burn_0 : decode cX6_burn 0 = .ok (.aload_n 0, 1) := by decide +kernel
theorem dX6_burn_1 : decode cX6_burn 1 = .ok (.iconst 0, 1) := by decide +kernel
theorem dX6_burn_2 : decode cX6_burn 2 = .ok (.putfield 47, 3) := by decide +kernel
theorem dX6_burn_5 : decode cX6_burn 5 = .ok (.iload_n 1, 1) := by decide +kernel
theorem dX6_burn_6 : decode cX6_burn 6 = .ok (.invokestatic 115, 3) := by decide +kernel
theorem dX6_burn_9 : decode cX6_burn 9 = .ok (.ifCond .eq 10, 3) := by decide +kernel
theorem dX6_burn_12 : decode cX6_burn 12 = .ok (.iload_n 2, 1) := by decide +kernel
theorem dX6_burn_13 : decode cX6_burn 13 = .ok (.invokestatic 125, 3) := by decide +kernel
theorem dX6_burn_16 : decode cX6_burn 16 = .ok (.ifCond .ne 9, 3) := by decide +kernel
theorem dX6_burn_19 : decode cX6_burn 19 = .ok (.aload_n 0, 1) := by decide +kernel
theorem dX6_burn_20 : decode cX6_burn 20 = .ok (.iconst 1, 1) := by decide +kernel
theorem dX6_burn_21 : decode cX6_burn 21 = .ok (.invokevirtual 119, 3) := by decide +kernel
theorem dX6_burn_24 : decode cX6_burn 24 = .ok (.ireturn, 1) := by decide +kernel
theorem dX6_burn_25 : decode cX6_burn 25 = .ok (.aload_n 0, 1) := by decide +kernel
theorem dX6_burn_26 : decode cX6_burn 26 = .ok (.invokevirtual 122, 3) := by decide +kernel
theorem dX6_burn_29 : decode cX6_burn 29 = .ok (.aload_n 0, 1) := by decide +kernel
theorem dX6_burn_30 : decode cX6_burn 30 = .ok (.iload_n 1, 1) := by decide +kernel
theorem dX6_burn_31 : decode cX6_burn 31 = .ok (.iconst 3, 1) := by decide +kernel
theorem dX6_burn_32 : decode cX6_burn 32 = .ok (.aload_n 0, 1) := by decide +kernel
theorem dX6_burn_33 : decode cX6_burn 33 = .ok (.iload_n 1, 1) := by decide +kernel
theorem dX6_burn_34 : decode cX6_burn 34 = .ok (.iconst 3, 1) := by decide +kernel
theorem dX6_burn_35 : decode cX6_burn 35 = .ok (.invokevirtual 62, 3) := by decide +kernel
theorem dX6_burn_38 : decode cX6_burn 38 = .ok (.iconst 1, 1) := by decide +kernel
theorem dX6_burn_39 : decode cX6_burn 39 = .ok (.iload_n 2, 1) := by decide +kernel
theorem dX6_burn_40 : decode cX6_burn 40 = .ok (.ishl, 1) := by decide +kernel
theorem dX6_burn_41 : decode cX6_burn 41 = .ok (.ixor, 1) := by decide +kernel
theorem dX6_burn_42 : decode cX6_burn 42 = .ok (.invokevirtual 51, 3) := by decide +kernel
theorem dX6_burn_45 : decode cX6_burn 45 = .ok (.aload_n 0, 1) := by decide +kernel
theorem dX6_burn_46 : decode cX6_burn 46 = .ok (.iload_n 1, 1) := by decide +kernel
theorem dX6_burn_47 : decode cX6_burn 47 = .ok (.iconst 3, 1) := by decide +kernel
theorem dX6_burn_48 : decode cX6_burn 48 = .ok (.invokevirtual 62, 3) := by decide +kernel
theorem dX6_burn_51 : decode cX6_burn 51 = .ok (.iload_n 2, 1) := by decide +kernel
theorem dX6_burn_52 : decode cX6_burn 52 = .ok (.ishr, 1) := by decide +kernel
theorem dX6_burn_53 : decode cX6_burn 53 = .ok (.iconst 1, 1) := by decide +kernel
theorem dX6_burn_54 : decode cX6_burn 54 = .ok (.iand, 1) := by decide +kernel
theorem dX6_burn_55 : decode cX6_burn 55 = .ok (.ireturn, 1) := by decide +kernel
theorem dX6_cut_0 : decode cX6_cut 0 = .ok (.aload_n 0, 1) := by decide +kernel
theorem dX6_cut_1 : decode cX6_cut 1 = .ok (.iconst 0, 1) := by decide +kernel
theorem dX6_cut_2 : decode cX6_cut 2 = .ok (.putfield 47, 3) := by decide +kernel
theorem dX6_cut_5 : decode cX6_cut 5 = .ok (.iload_n 1, 1) := by decide +kernel
theorem dX6_cut_6 : decode cX6_cut 6 = .ok (.invokestatic 125, 3) := by decide +kernel
theorem dX6_cut_9 : decode cX6_cut 9 = .ok (.ifCond .ne 9, 3) := by decide +kernel
theorem dX6_cut_12 : decode cX6_cut 12 = .ok (.aload_n 0, 1) := by decide +kernel
theorem dX6_cut_13 : decode cX6_cut 13 = .ok (.iconst 1, 1) := by decide +kernel
theorem dX6_cut_14 : decode cX6_cut 14 = .ok (.invokevirtual 119, 3) := by decide +kernel
theorem dX6_cut_17 : decode cX6_cut 17 = .ok (.ireturn, 1) := by decide +kernel
theorem dX6_cut_18 : decode cX6_cut 18 = .ok (.aload_n 0, 1) := by decide +kernel
theorem dX6_cut_19 : decode cX6_cut 19 = .ok (.invokevirtual 122, 3) := by decide +kernel
theorem dX6_cut_22 : decode cX6_cut 22 = .ok (.aload_n 0, 1) := by decide +kernel
theorem dX6_cut_23 : decode cX6_cut 23 = .ok (.getfield 7, 3) := by decide +kernel
theorem dX6_cut_26 : decode cX6_cut 26 = .ok (.iconst 4, 1) := by decide +kernel
theorem dX6_cut_27 : decode cX6_cut 27 = .ok (.aload_n 0, 1) := by decide +kernel
theorem dX6_cut_28 : decode cX6_cut 28 = .ok (.getfield 7, 3) := by decide +kernel
theorem dX6_cut_31 : decode cX6_cut 31 = .ok (.iconst 4, 1) := by decide +kernel
theorem dX6_cut_32 : decode cX6_cut 32 = .ok (.iaload, 1) := by decide +kernel
theorem dX6_cut_33 : decode cX6_cut 33 = .ok (.iconst 1, 1) := by decide +kernel
theorem dX6_cut_34 : decode cX6_cut 34 = .ok (.iload_n 1, 1) := by decide +kernel
theorem dX6_cut_35 : decode cX6_cut 35 = .ok (.ishl, 1) := by decide +kernel
theorem dX6_cut_36 : decode cX6_cut 36 = .ok (.ixor, 1) := by decide +kernel
theorem dX6_cut_37 : decode cX6_cut 37 = .ok (.iastore, 1) := by decide +kernel
theorem dX6_cut_38 : decode cX6_cut 38 = .ok (.aload_n 0, 1) := by decide +kernel
theorem dX6_cut_39 : decode cX6_cut 39 = .ok (.getfield 7, 3) := by decide +kernel
theorem dX6_cut_42 : decode cX6_cut 42 = .ok (.iconst 4, 1) := by decide +kernel
theorem dX6_cut_43 : decode cX6_cut 43 = .ok (.iaload, 1) := by decide +kernel
theorem dX6_cut_44 : decode cX6_cut 44 = .ok (.iload_n 1, 1) := by decide +kernel
theorem dX6_cut_45 : decode cX6_cut 45 = .ok (.ishr, 1) := by decide +kernel
theorem dX6_cut_46 : decode cX6_cut 46 = .ok (.iconst 1, 1) := by decide +kernel
theorem dX6_cut_47 : decode cX6_cut 47 = .ok (.iand, 1) := by decide +kernel
theorem dX6_cut_48 : decode cX6_cut 48 = .ok (.ireturn, 1) := by decide +kernel
theorem dX6_time_0 : decode cX6_time 0 = .ok (.aload_n 0, 1) := by decide +kernel
theorem dX6_time_1 : decode cX6_time 1 = .ok (.iconst 0, 1) := by decide +kernel
theorem dX6_time_2 : decode cX6_time 2 = .ok (.putfield 47, 3) := by decide +kernel
theorem dX6_time_5 : decode cX6_time 5 = .ok (.iload_n 1, 1) := by decide +kernel
theorem dX6_time_6 : decode cX6_time 6 = .ok (.invokestatic 115, 3) := by decide +kernel
theorem dX6_time_9 : decode cX6_time 9 = .ok (.ifCond .ne 9, 3) := by decide +kernel
theorem dX6_time_12 : decode cX6_time 12 = .ok (.aload_n 0, 1) := by decide +kernel
theorem dX6_time_13 : decode cX6_time 13 = .ok (.iconst 1, 1) := by decide +kernel
theorem dX6_time_14 : decode cX6_time 14 = .ok (.invokevirtual 119, 3) := by decide +kernel
theorem dX6_time_17 : decode cX6_time 17 = .ok (.ireturn, 1) := by decide +kernel
theorem dX6_time_18 : decode cX6_time 18 = .ok (.iload_n 2, 1) := by decide +kernel
theorem dX6_time_19 : decode cX6_time 19 = .ok (.iconst 0, 1) := by decide +kernel
theorem dX6_time_20 : decode cX6_time 20 = .ok (.bipush 20, 2) := by decide +kernel
theorem dX6_time_22 : decode cX6_time 22 = .ok (.invokestatic 55, 3) := by decide +kernel
theorem dX6_time_25 : decode cX6_time 25 = .ok (.ifCond .ne 9, 3) := by decide +kernel
theorem dX6_time_28 : decode cX6_time 28 = .ok (.aload_n 0, 1) := by decide +kernel
theorem dX6_time_29 : decode cX6_time 29 = .ok (.iconst 2, 1) := by decide +kernel
theorem dX6_time_30 : decode cX6_time 30 = .ok (.invokevirtual 119, 3) := by decide +kernel
theorem dX6_time_33 : decode cX6_time 33 = .ok (.ireturn, 1) := by decide +kernel
theorem dX6_time_34 : decode cX6_time 34 = .ok (.aload_n 0, 1) := by decide +kernel
theorem dX6_time_35 : decode cX6_time 35 = .ok (.invokevirtual 122, 3) := by decide +kernel
theorem dX6_time_38 : decode cX6_time 38 = .ok (.aload_n 0, 1) := by decide +kernel
theorem dX6_time_39 : decode cX6_time 39 = .ok (.iload_n 1, 1) := by decide +kernel
theorem dX6_time_40 : decode cX6_time 40 = .ok (.iconst 2, 1) := by decide +kernel
theorem dX6_time_41 : decode cX6_time 41 = .ok (.invokevirtual 62, 3) := by decide +kernel
theorem dX6_time_44 : decode cX6_time 44 = .ok (.istore_n 3, 1) := by decide +kernel
theorem dX6_time_45 : decode cX6_time 45 = .ok (.aload_n 0, 1) := by decide +kernel
theorem dX6_time_46 : decode cX6_time 46 = .ok (.iload_n 1, 1) := by decide +kernel
theorem dX6_time_47 : decode cX6_time 47 = .ok (.iconst 2, 1) := by decide +kernel
theorem dX6_time_48 : decode cX6_time 48 = .ok (.iload_n 2, 1) := by decide +kernel
theorem dX6_time_49 : decode cX6_time 49 = .ok (.invokevirtual 51, 3) := by decide +kernel
theorem dX6_time_52 : decode cX6_time 52 = .ok (.aload_n 0, 1) := by decide +kernel
theorem dX6_time_53 : decode cX6_time 53 = .ok (.getfield 7, 3) := by decide +kernel
theorem dX6_time_56 : decode cX6_time 56 = .ok (.bipush 6, 2) := by decide +kernel
theorem dX6_time_58 : decode cX6_time 58 = .ok (.iconst 0, 1) := by decide +kernel
theorem dX6_time_59 : decode cX6_time 59 = .ok (.iastore, 1) := by decide +kernel
theorem dX6_time_60 : decode cX6_time 60 = .ok (.iload_n 3, 1) := by decide +kernel
theorem dX6_time_61 : decode cX6_time 61 = .ok (.ireturn, 1) := by decide +kernel
theorem dX6_workingSlots_0 : decode cX6_workingSlots 0 = .ok (.iconst 0, 1) := by decide +kernel
theorem dX6_workingSlots_1 : decode cX6_workingSlots 1 = .ok (.istore_n 1, 1) := by decide +kernel
theorem dX6_workingSlots_2 : decode cX6_workingSlots 2 = .ok (.iconst 0, 1) := by decide +kernel
theorem dX6_workingSlots_3 : decode cX6_workingSlots 3 = .ok (.istore_n 2, 1) := by decide +kernel
theorem dX6_workingSlots_4 : decode cX6_workingSlots 4 = .ok (.iload_n 2, 1) := by decide +kernel
theorem dX6_workingSlots_5 : decode cX6_workingSlots 5 = .ok (.bipush 6, 2) := by decide +kernel
theorem dX6_workingSlots_7 : decode cX6_workingSlots 7 = .ok (.if_icmp .ge 25, 3) := by decide +kernel
theorem dX6_workingSlots_10 : decode cX6_workingSlots 10 = .ok (.iload_n 1, 1) := by decide +kernel
theorem dX6_workingSlots_11 : decode cX6_workingSlots 11 = .ok (.aload_n 0, 1) := by decide +kernel
theorem dX6_workingSlots_12 : decode cX6_workingSlots 12 = .ok (.iload_n 2, 1) := by decide +kernel
theorem dX6_workingSlots_13 : decode cX6_workingSlots 13 = .ok (.invokevirtual 73, 3) := by decide +kernel
theorem dX6_workingSlots_16 : decode cX6_workingSlots 16 = .ok (.ifCond .eq 7, 3) := by decide +kernel
theorem dX6_workingSlots_19 : decode cX6_workingSlots 19 = .ok (.iconst 1, 1) := by decide +kernel
theorem dX6_workingSlots_20 : decode cX6_workingSlots 20 = .ok (.goto 4, 3) := by decide +kernel
theorem dX6_workingSlots_23 : decode cX6_workingSlots 23 = .ok (.iconst 0, 1) := by decide +kernel
theorem dX6_workingSlots_24 : decode cX6_workingSlots 24 = .ok (.iadd, 1) := by decide +kernel
theorem dX6_workingSlots_25 : decode cX6_workingSlots 25 = .ok (.istore_n 1, 1) := by decide +kernel
theorem dX6_workingSlots_26 : decode cX6_workingSlots 26 = .ok (.iinc 2 1, 3) := by decide +kernel
theorem dX6_workingSlots_29 : decode cX6_workingSlots 29 = .ok (.goto (-25), 3) := by decide +kernel
theorem dX6_workingSlots_32 : decode cX6_workingSlots 32 = .ok (.iload_n 1, 1) := by decide +kernel
theorem dX6_workingSlots_33 : decode cX6_workingSlots 33 = .ok (.ireturn, 1) := by decide +kernel
theorem dX6_neediest_0 : decode cX6_neediest 0 = .ok (.iconst (-1), 1) := by decide +kernel
theorem dX6_neediest_1 : decode cX6_neediest 1 = .ok (.istore_n 1, 1) := by decide +kernel
theorem dX6_neediest_2 : decode cX6_neediest 2 = .ok (.iconst 0, 1) := by decide +kernel
theorem dX6_neediest_3 : decode cX6_neediest 3 = .ok (.istore_n 2, 1) := by decide +kernel
theorem dX6_neediest_4 : decode cX6_neediest 4 = .ok (.iload_n 2, 1) := by decide +kernel
theorem dX6_neediest_5 : decode cX6_neediest 5 = .ok (.bipush 6, 2) := by decide +kernel
theorem dX6_neediest_7 : decode cX6_neediest 7 = .ok (.if_icmp .ge 95, 3) := by decide +kernel
theorem dX6_neediest_10 : decode cX6_neediest 10 = .ok (.aload_n 0, 1) := by decide +kernel
theorem dX6_neediest_11 : decode cX6_neediest 11 = .ok (.getfield 44, 3) := by decide +kernel
theorem dX6_neediest_14 : decode cX6_neediest 14 = .ok (.iload_n 2, 1) := by decide +kernel
theorem dX6_neediest_15 : decode cX6_neediest 15 = .ok (.iaload, 1) := by decide +kernel
theorem dX6_neediest_16 : decode cX6_neediest 16 = .ok (.ifCond .le 18, 3) := by decide +kernel
theorem dX6_neediest_19 : decode cX6_neediest 19 = .ok (.aload_n 0, 1) := by decide +kernel
theorem dX6_neediest_20 : decode cX6_neediest 20 = .ok (.getfield 44, 3) := by decide +kernel
theorem dX6_neediest_23 : decode cX6_neediest 23 = .ok (.iload_n 2, 1) := by decide +kernel
theorem dX6_neediest_24 : decode cX6_neediest 24 = .ok (.iaload, 1) := by decide +kernel
theorem dX6_neediest_25 : decode cX6_neediest 25 = .ok (.bipush 20, 2) := by decide +kernel
theorem dX6_neediest_27 : decode cX6_neediest 27 = .ok (.if_icmp .ge 7, 3) := by decide +kernel
theorem dX6_neediest_30 : decode cX6_neediest 30 = .ok (.iconst 1, 1) := by decide +kernel
theorem dX6_neediest_31 : decode cX6_neediest 31 = .ok (.goto 4, 3) := by decide +kernel
theorem dX6_neediest_34 : decode cX6_neediest 34 = .ok (.iconst 0, 1) := by decide +kernel
theorem dX6_neediest_35 : decode cX6_neediest 35 = .ok (.istore_n 3, 1) := by decide +kernel
theorem dX6_neediest_36 : decode cX6_neediest 36 = .ok (.iload_n 3, 1) := by decide +kernel
theorem dX6_neediest_37 : decode cX6_neediest 37 = .ok (.ifCond .eq 45, 3) := by decide +kernel
theorem dX6_neediest_40 : decode cX6_neediest 40 = .ok (.iload_n 1, 1) := by decide +kernel
theorem dX6_neediest_41 : decode cX6_neediest 41 = .ok (.iconst (-1), 1) := by decide +kernel
theorem dX6_neediest_42 : decode cX6_neediest 42 = .ok (.if_icmp .eq 36, 3) := by decide +kernel
theorem dX6_neediest_45 : decode cX6_neediest 45 = .ok (.aload_n 0, 1) := by decide +kernel
theorem dX6_neediest_46 : decode cX6_neediest 46 = .ok (.getfield 44, 3) := by decide +kernel
theorem dX6_neediest_49 : decode cX6_neediest 49 = .ok (.iload_n 2, 1) := by decide +kernel
theorem dX6_neediest_50 : decode cX6_neediest 50 = .ok (.iaload, 1) := by decide +kernel
theorem dX6_neediest_51 : decode cX6_neediest 51 = .ok (.aload_n 0, 1) := by decide +kernel
theorem dX6_neediest_52 : decode cX6_neediest 52 = .ok (.iload_n 1, 1) := by decide +kernel
theorem dX6_neediest_53 : decode cX6_neediest 53 = .ok (.invokevirtual 73, 3) := by decide +kernel
theorem dX6_neediest_56 : decode cX6_neediest 56 = .ok (.invokestatic 76, 3) := by decide +kernel
theorem dX6_neediest_59 : decode cX6_neediest 59 = .ok (.imul, 1) := by decide +kernel
theorem dX6_neediest_60 : decode cX6_neediest 60 = .ok (.aload_n 0, 1) := by decide +kernel
theorem dX6_neediest_61 : decode cX6_neediest 61 = .ok (.getfield 44, 3) := by decide +kernel
theorem dX6_neediest_64 : decode cX6_neediest 64 = .ok (.iload_n 1, 1) := by decide +kernel
theorem dX6_neediest_65 : decode cX6_neediest 65 = .ok (.iaload, 1) := by decide +kernel
theorem dX6_neediest_66 : decode cX6_neediest 66 = .ok (.aload_n 0, 1) := by decide +kernel
theorem dX6_neediest_67 : decode cX6_neediest 67 = .ok (.iload_n 2, 1) := by decide +kernel
theorem dX6_neediest_68 : decode cX6_neediest 68 = .ok (.invokevirtual 73, 3) := by decide +kernel
theorem dX6_neediest_71 : decode cX6_neediest 71 = .ok (.invokestatic 76, 3) := by decide +kernel
theorem dX6_neediest_74 : decode cX6_neediest 74 = .ok (.imul, 1) := by decide +kernel
theorem dX6_neediest_75 : decode cX6_neediest 75 = .ok (.if_icmp .ge 7, 3) := by decide +kernel
theorem dX6_neediest_78 : decode cX6_neediest 78 = .ok (.iconst 1, 1) := by decide +kernel
theorem dX6_neediest_79 : decode cX6_neediest 79 = .ok (.goto 4, 3) := by decide +kernel
theorem dX6_neediest_82 : decode cX6_neediest 82 = .ok (.iconst 0, 1) := by decide +kernel
theorem dX6_neediest_83 : decode cX6_neediest 83 = .ok (.istore 4, 2) := by decide +kernel
theorem dX6_neediest_85 : decode cX6_neediest 85 = .ok (.iload 4, 2) := by decide +kernel
theorem dX6_neediest_87 : decode cX6_neediest 87 = .ok (.ifCond .eq 7, 3) := by decide +kernel
theorem dX6_neediest_90 : decode cX6_neediest 90 = .ok (.iload_n 2, 1) := by decide +kernel
theorem dX6_neediest_91 : decode cX6_neediest 91 = .ok (.goto 4, 3) := by decide +kernel
theorem dX6_neediest_94 : decode cX6_neediest 94 = .ok (.iload_n 1, 1) := by decide +kernel
theorem dX6_neediest_95 : decode cX6_neediest 95 = .ok (.istore_n 1, 1) := by decide +kernel
theorem dX6_neediest_96 : decode cX6_neediest 96 = .ok (.iinc 2 1, 3) := by decide +kernel
theorem dX6_neediest_99 : decode cX6_neediest 99 = .ok (.goto (-95), 3) := by decide +kernel
theorem dX6_neediest_102 : decode cX6_neediest 102 = .ok (.iload_n 1, 1) := by decide +kernel
theorem dX6_neediest_103 : decode cX6_neediest 103 = .ok (.ireturn, 1) := by decide +kernel
theorem dX6_gives_0 : decode cX6_gives 0 = .ok (.iconst 0, 1) := by decide +kernel
theorem dX6_gives_1 : decode cX6_gives 1 = .ok (.istore_n 2, 1) := by decide +kernel
theorem dX6_gives_2 : decode cX6_gives 2 = .ok (.iconst 0, 1) := by decide +kernel
theorem dX6_gives_3 : decode cX6_gives 3 = .ok (.istore_n 3, 1) := by decide +kernel
theorem dX6_gives_4 : decode cX6_gives 4 = .ok (.iload_n 3, 1) := by decide +kernel
theorem dX6_gives_5 : decode cX6_gives 5 = .ok (.bipush 6, 2) := by decide +kernel
theorem dX6_gives_7 : decode cX6_gives 7 = .ok (.if_icmp .ge 37, 3) := by decide +kernel
theorem dX6_gives_10 : decode cX6_gives 10 = .ok (.aload_n 0, 1) := by decide +kernel
theorem dX6_gives_11 : decode cX6_gives 11 = .ok (.getfield 44, 3) := by decide +kernel
theorem dX6_gives_14 : decode cX6_gives 14 = .ok (.iload_n 3, 1) := by decide +kernel
theorem dX6_gives_15 : decode cX6_gives 15 = .ok (.aload_n 0, 1) := by decide +kernel
theorem dX6_gives_16 : decode cX6_gives 16 = .ok (.iload_n 3, 1) := by decide +kernel
theorem dX6_gives_17 : decode cX6_gives 17 = .ok (.invokevirtual 73, 3) := by decide +kernel
theorem dX6_gives_20 : decode cX6_gives 20 = .ok (.ifCond .eq 7, 3) := by decide +kernel
theorem dX6_gives_23 : decode cX6_gives 23 = .ok (.iconst 1, 1) := by decide +kernel
theorem dX6_gives_24 : decode cX6_gives 24 = .ok (.goto 4, 3) := by decide +kernel
theorem dX6_gives_27 : decode cX6_gives 27 = .ok (.iconst 0, 1) := by decide +kernel
theorem dX6_gives_28 : decode cX6_gives 28 = .ok (.iastore, 1) := by decide +kernel
theorem dX6_gives_29 : decode cX6_gives 29 = .ok (.iload_n 2, 1) := by decide +kernel
theorem dX6_gives_30 : decode cX6_gives 30 = .ok (.aload_n 0, 1) := by decide +kernel
theorem dX6_gives_31 : decode cX6_gives 31 = .ok (.getfield 44, 3) := by decide +kernel
theorem dX6_gives_34 : decode cX6_gives 34 = .ok (.iload_n 3, 1) := by decide +kernel
theorem dX6_gives_35 : decode cX6_gives 35 = .ok (.iaload, 1) := by decide +kernel
theorem dX6_gives_36 : decode cX6_gives 36 = .ok (.iadd, 1) := by decide +kernel
theorem dX6_gives_37 : decode cX6_gives 37 = .ok (.istore_n 2, 1) := by decide +kernel
theorem dX6_gives_38 : decode cX6_gives 38 = .ok (.iinc 3 1, 3) := by decide +kernel
theorem dX6_gives_41 : decode cX6_gives 41 = .ok (.goto (-37), 3) := by decide +kernel
theorem dX6_gives_44 : decode cX6_gives 44 = .ok (.aload_n 0, 1) := by decide +kernel
theorem dX6_gives_45 : decode cX6_gives 45 = .ok (.invokevirtual 128, 3) := by decide +kernel
theorem dX6_gives_48 : decode cX6_gives 48 = .ok (.istore_n 3, 1) := by decide +kernel
theorem dX6_gives_49 : decode cX6_gives 49 = .ok (.iload_n 2, 1) := by decide +kernel
theorem dX6_gives_50 : decode cX6_gives 50 = .ok (.iload_n 1, 1) := by decide +kernel
theorem dX6_gives_51 : decode cX6_gives 51 = .ok (.if_icmp .ge 29, 3) := by decide +kernel
theorem dX6_gives_54 : decode cX6_gives 54 = .ok (.iload_n 3, 1) := by decide +kernel
theorem dX6_gives_55 : decode cX6_gives 55 = .ok (.iconst (-1), 1) := by decide +kernel
theorem dX6_gives_56 : decode cX6_gives 56 = .ok (.if_icmp .eq 24, 3) := by decide +kernel
theorem dX6_gives_59 : decode cX6_gives 59 = .ok (.aload_n 0, 1) := by decide +kernel
theorem dX6_gives_60 : decode cX6_gives 60 = .ok (.getfield 44, 3) := by decide +kernel
theorem dX6_gives_63 : decode cX6_gives 63 = .ok (.iload_n 3, 1) := by decide +kernel
theorem dX6_gives_64 : decode cX6_gives 64 = .ok (.dup2, 1) := by decide +kernel
theorem dX6_gives_65 : decode cX6_gives 65 = .ok (.iaload, 1) := by decide +kernel
theorem dX6_gives_66 : decode cX6_gives 66 = .ok (.iconst 1, 1) := by decide +kernel
theorem dX6_gives_67 : decode cX6_gives 67 = .ok (.iadd, 1) := by decide +kernel
theorem dX6_gives_68 : decode cX6_gives 68 = .ok (.iastore, 1) := by decide +kernel
theorem dX6_gives_69 : decode cX6_gives 69 = .ok (.iinc 2 1, 3) := by decide +kernel
theorem dX6_gives_72 : decode cX6_gives 72 = .ok (.aload_n 0, 1) := by decide +kernel
theorem dX6_gives_73 : decode cX6_gives 73 = .ok (.invokevirtual 128, 3) := by decide +kernel
theorem dX6_gives_76 : decode cX6_gives 76 = .ok (.istore_n 3, 1) := by decide +kernel
theorem dX6_gives_77 : decode cX6_gives 77 = .ok (.goto (-28), 3) := by decide +kernel
theorem dX6_gives_80 : decode cX6_gives 80 = .ok (.iload_n 2, 1) := by decide +kernel
theorem dX6_gives_81 : decode cX6_gives 81 = .ok (.ireturn, 1) := by decide +kernel
theorem dX6_balance_0 : decode cX6_balance 0 = .ok (.aload_n 0, 1) := by decide +kernel
theorem dX6_balance_1 : decode cX6_balance 1 = .ok (.iconst 0, 1) := by decide +kernel
theorem dX6_balance_2 : decode cX6_balance 2 = .ok (.putfield 47, 3) := by decide +kernel
theorem dX6_balance_5 : decode cX6_balance 5 = .ok (.iload_n 1, 1) := by decide +kernel
theorem dX6_balance_6 : decode cX6_balance 6 = .ok (.bipush 6, 2) := by decide +kernel
theorem dX6_balance_8 : decode cX6_balance 8 = .ok (.bipush 60, 2) := by decide +kernel
theorem dX6_balance_10 : decode cX6_balance 10 = .ok (.invokestatic 55, 3) := by decide +kernel
theorem dX6_balance_13 : decode cX6_balance 13 = .ok (.ifCond .ne 9, 3) := by decide +kernel
theorem dX6_balance_16 : decode cX6_balance 16 = .ok (.aload_n 0, 1) := by decide +kernel
theorem dX6_balance_17 : decode cX6_balance 17 = .ok (.iconst 1, 1) := by decide +kernel
theorem dX6_balance_18 : decode cX6_balance 18 = .ok (.invokevirtual 119, 3) := by decide +kernel
theorem dX6_balance_21 : decode cX6_balance 21 = .ok (.ireturn, 1) := by decide +kernel
theorem dX6_balance_22 : decode cX6_balance 22 = .ok (.aload_n 0, 1) := by decide +kernel
theorem dX6_balance_23 : decode cX6_balance 23 = .ok (.invokevirtual 131, 3) := by decide +kernel
theorem dX6_balance_26 : decode cX6_balance 26 = .ok (.ifCond .ne 9, 3) := by decide +kernel
theorem dX6_balance_29 : decode cX6_balance 29 = .ok (.aload_n 0, 1) := by decide +kernel
theorem dX6_balance_30 : decode cX6_balance 30 = .ok (.iconst 2, 1) := by decide +kernel
theorem dX6_balance_31 : decode cX6_balance 31 = .ok (.invokevirtual 119, 3) := by decide +kernel
theorem dX6_balance_34 : decode cX6_balance 34 = .ok (.ireturn, 1) := by decide +kernel
theorem dX6_balance_35 : decode cX6_balance 35 = .ok (.aload_n 0, 1) := by decide +kernel
theorem dX6_balance_36 : decode cX6_balance 36 = .ok (.invokevirtual 122, 3) := by decide +kernel
theorem dX6_balance_39 : decode cX6_balance 39 = .ok (.aload_n 0, 1) := by decide +kernel
theorem dX6_balance_40 : decode cX6_balance 40 = .ok (.iload_n 1, 1) := by decide +kernel
theorem dX6_balance_41 : decode cX6_balance 41 = .ok (.invokevirtual 134, 3) := by decide +kernel
theorem dX6_balance_44 : decode cX6_balance 44 = .ok (.istore_n 2, 1) := by decide +kernel
theorem dX6_balance_45 : decode cX6_balance 45 = .ok (.iconst 0, 1) := by decide +kernel
theorem dX6_balance_46 : decode cX6_balance 46 = .ok (.istore_n 3, 1) := by decide +kernel
theorem dX6_balance_47 : decode cX6_balance 47 = .ok (.iload_n 3, 1) := by decide +kernel
theorem dX6_balance_48 : decode cX6_balance 48 = .ok (.bipush 6, 2) := by decide +kernel
theorem dX6_balance_50 : decode cX6_balance 50 = .ok (.if_icmp .ge 21, 3) := by decide +kernel
theorem dX6_balance_53 : decode cX6_balance 53 = .ok (.aload_n 0, 1) := by decide +kernel
theorem dX6_balance_54 : decode cX6_balance 54 = .ok (.iload_n 3, 1) := by decide +kernel
theorem dX6_balance_55 : decode cX6_balance 55 = .ok (.iconst 2, 1) := by decide +kernel
theorem dX6_balance_56 : decode cX6_balance 56 = .ok (.aload_n 0, 1) := by decide +kernel
theorem dX6_balance_57 : decode cX6_balance 57 = .ok (.getfield 44, 3) := by decide +kernel
theorem dX6_balance_60 : decode cX6_balance 60 = .ok (.iload_n 3, 1) := by decide +kernel
theorem dX6_balance_61 : decode cX6_balance 61 = .ok (.iaload, 1) := by decide +kernel
theorem dX6_balance_62 : decode cX6_balance 62 = .ok (.invokevirtual 51, 3) := by decide +kernel
theorem dX6_balance_65 : decode cX6_balance 65 = .ok (.iinc 3 1, 3) := by decide +kernel
theorem dX6_balance_68 : decode cX6_balance 68 = .ok (.goto (-21), 3) := by decide +kernel
theorem dX6_balance_71 : decode cX6_balance 71 = .ok (.aload_n 0, 1) := by decide +kernel
theorem dX6_balance_72 : decode cX6_balance 72 = .ok (.getfield 7, 3) := by decide +kernel
theorem dX6_balance_75 : decode cX6_balance 75 = .ok (.bipush 6, 2) := by decide +kernel
theorem dX6_balance_77 : decode cX6_balance 77 = .ok (.iconst 0, 1) := by decide +kernel
theorem dX6_balance_78 : decode cX6_balance 78 = .ok (.iastore, 1) := by decide +kernel
theorem dX6_balance_79 : decode cX6_balance 79 = .ok (.iload_n 2, 1) := by decide +kernel
theorem dX6_balance_80 : decode cX6_balance 80 = .ok (.ireturn, 1) := by decide +kernel
theorem dX6_set_0 : decode cX6_set 0 = .ok (.aload_n 0, 1) := by decide +kernel
theorem dX6_set_1 : decode cX6_set 1 = .ok (.iconst 0, 1) := by decide +kernel
theorem dX6_set_2 : decode cX6_set 2 = .ok (.putfield 47, 3) := by decide +kernel
theorem dX6_set_5 : decode cX6_set 5 = .ok (.iload_n 1, 1) := by decide +kernel
theorem dX6_set_6 : decode cX6_set 6 = .ok (.iconst 0, 1) := by decide +kernel
theorem dX6_set_7 : decode cX6_set 7 = .ok (.iconst 3, 1) := by decide +kernel
theorem dX6_set_8 : decode cX6_set 8 = .ok (.invokestatic 55, 3) := by decide +kernel
theorem dX6_set_11 : decode cX6_set 11 = .ok (.ifCond .ne 9, 3) := by decide +kernel
theorem dX6_set_14 : decode cX6_set 14 = .ok (.aload_n 0, 1) := by decide +kernel
theorem dX6_set_15 : decode cX6_set 15 = .ok (.iconst 1, 1) := by decide +kernel
theorem dX6_set_16 : decode cX6_set 16 = .ok (.invokevirtual 119, 3) := by decide +kernel
theorem dX6_set_19 : decode cX6_set 19 = .ok (.ireturn, 1) := by decide +kernel
theorem dX6_set_20 : decode cX6_set 20 = .ok (.iload_n 1, 1) := by decide +kernel
theorem dX6_set_21 : decode cX6_set 21 = .ok (.ifCond .ne 7, 3) := by decide +kernel
theorem dX6_set_24 : decode cX6_set 24 = .ok (.iconst 3, 1) := by decide +kernel
theorem dX6_set_25 : decode cX6_set 25 = .ok (.goto 27, 3) := by decide +kernel
theorem dX6_set_28 : decode cX6_set 28 = .ok (.iload_n 1, 1) := by decide +kernel
theorem dX6_set_29 : decode cX6_set 29 = .ok (.iconst 1, 1) := by decide +kernel
theorem dX6_set_30 : decode cX6_set 30 = .ok (.if_icmp .ne 9, 3) := by decide +kernel
theorem dX6_set_33 : decode cX6_set 33 = .ok (.sipush 2000, 3) := by decide +kernel
theorem dX6_set_36 : decode cX6_set 36 = .ok (.goto 16, 3) := by decide +kernel
theorem dX6_set_39 : decode cX6_set 39 = .ok (.iload_n 1, 1) := by decide +kernel
theorem dX6_set_40 : decode cX6_set 40 = .ok (.iconst 2, 1) := by decide +kernel
theorem dX6_set_41 : decode cX6_set 41 = .ok (.if_icmp .ne 8, 3) := by decide +kernel
theorem dX6_set_44 : decode cX6_set 44 = .ok (.bipush 16, 2) := by decide +kernel
theorem dX6_set_46 : decode cX6_set 46 = .ok (.goto 6, 3) := by decide +kernel
theorem dX6_set_49 : decode cX6_set 49 = .ok (.sipush 500, 3) := by decide +kernel
theorem dX6_set_52 : decode cX6_set 52 = .ok (.istore_n 3, 1) := by decide +kernel
theorem dX6_set_53 : decode cX6_set 53 = .ok (.iload_n 2, 1) := by decide +kernel
theorem dX6_set_54 : decode cX6_set 54 = .ok (.iload_n 1, 1) := by decide +kernel
theorem dX6_set_55 : decode cX6_set 55 = .ok (.ifCond .ne 7, 3) := by decide +kernel
theorem dX6_set_58 : decode cX6_set 58 = .ok (.iconst 0, 1) := by decide +kernel
theorem dX6_set_59 : decode cX6_set 59 = .ok (.goto 4, 3) := by decide +kernel
theorem dX6_set_62 : decode cX6_set 62 = .ok (.iconst 1, 1) := by decide +kernel
theorem dX6_set_63 : decode cX6_set 63 = .ok (.iload_n 3, 1) := by decide +kernel
theorem dX6_set_64 : decode cX6_set 64 = .ok (.invokestatic 55, 3) := by decide +kernel
theorem dX6_set_67 : decode cX6_set 67 = .ok (.ifCond .ne 9, 3) := by decide +kernel
theorem dX6_set_70 : decode cX6_set 70 = .ok (.aload_n 0, 1) := by decide +kernel
theorem dX6_set_71 : decode cX6_set 71 = .ok (.iconst 2, 1) := by decide +kernel
theorem dX6_set_72 : decode cX6_set 72 = .ok (.invokevirtual 119, 3) := by decide +kernel
theorem dX6_set_75 : decode cX6_set 75 = .ok (.ireturn, 1) := by decide +kernel
theorem dX6_set_76 : decode cX6_set 76 = .ok (.aload_n 0, 1) := by decide +kernel
theorem dX6_set_77 : decode cX6_set 77 = .ok (.invokevirtual 122, 3) := by decide +kernel
theorem dX6_set_80 : decode cX6_set 80 = .ok (.aload_n 0, 1) := by decide +kernel
theorem dX6_set_81 : decode cX6_set 81 = .ok (.getfield 7, 3) := by decide +kernel
theorem dX6_set_84 : decode cX6_set 84 = .ok (.iload_n 1, 1) := by decide +kernel
theorem dX6_set_85 : decode cX6_set 85 = .ok (.iaload, 1) := by decide +kernel
theorem dX6_set_86 : decode cX6_set 86 = .ok (.istore 4, 2) := by decide +kernel
theorem dX6_set_88 : decode cX6_set 88 = .ok (.aload_n 0, 1) := by decide +kernel
theorem dX6_set_89 : decode cX6_set 89 = .ok (.getfield 7, 3) := by decide +kernel
theorem dX6_set_92 : decode cX6_set 92 = .ok (.iload_n 1, 1) := by decide +kernel
theorem dX6_set_93 : decode cX6_set 93 = .ok (.iload_n 2, 1) := by decide +kernel
theorem dX6_set_94 : decode cX6_set 94 = .ok (.iastore, 1) := by decide +kernel
theorem dX6_set_95 : decode cX6_set 95 = .ok (.aload_n 0, 1) := by decide +kernel
theorem dX6_set_96 : decode cX6_set 96 = .ok (.getfield 7, 3) := by decide +kernel
theorem dX6_set_99 : decode cX6_set 99 = .ok (.bipush 6, 2) := by decide +kernel
theorem dX6_set_101 : decode cX6_set 101 = .ok (.iconst 0, 1) := by decide +kernel
theorem dX6_set_102 : decode cX6_set 102 = .ok (.iastore, 1) := by decide +kernel
theorem dX6_set_103 : decode cX6_set 103 = .ok (.iload 4, 2) := by decide +kernel
theorem dX6_set_105 : decode cX6_set 105 = .ok (.ireturn, 1) := by decide +kernel
theorem dX6_pass_0 : decode cX6_pass 0 = .ok (.aload_n 0, 1) := by decide +kernel
theorem dX6_pass_1 : decode cX6_pass 1 = .ok (.iconst 0, 1) := by decide +kernel
theorem dX6_pass_2 : decode cX6_pass 2 = .ok (.putfield 47, 3) := by decide +kernel
theorem dX6_pass_5 : decode cX6_pass 5 = .ok (.iload_n 1, 1) := by decide +kernel
theorem dX6_pass_6 : decode cX6_pass 6 = .ok (.iconst 1, 1) := by decide +kernel
theorem dX6_pass_7 : decode cX6_pass 7 = .ok (.sipush 200, 3) := by decide +kernel
theorem dX6_pass_10 : decode cX6_pass 10 = .ok (.invokestatic 55, 3) := by decide +kernel
theorem dX6_pass_13 : decode cX6_pass 13 = .ok (.ifCond .ne 9, 3) := by decide +kernel
theorem dX6_pass_16 : decode cX6_pass 16 = .ok (.aload_n 0, 1) := by decide +kernel
theorem dX6_pass_17 : decode cX6_pass 17 = .ok (.iconst 1, 1) := by decide +kernel
theorem dX6_pass_18 : decode cX6_pass 18 = .ok (.invokevirtual 119, 3) := by decide +kernel
theorem dX6_pass_21 : decode cX6_pass 21 = .ok (.ireturn, 1) := by decide +kernel
theorem dX6_pass_22 : decode cX6_pass 22 = .ok (.aload_n 0, 1) := by decide +kernel
theorem dX6_pass_23 : decode cX6_pass 23 = .ok (.invokevirtual 98, 3) := by decide +kernel
theorem dX6_pass_26 : decode cX6_pass 26 = .ok (.istore_n 2, 1) := by decide +kernel
theorem dX6_pass_27 : decode cX6_pass 27 = .ok (.iload_n 2, 1) := by decide +kernel
theorem dX6_pass_28 : decode cX6_pass 28 = .ok (.ifCond .eq 16, 3) := by decide +kernel
theorem dX6_pass_31 : decode cX6_pass 31 = .ok (.aload_n 0, 1) := by decide +kernel
theorem dX6_pass_32 : decode cX6_pass 32 = .ok (.getfield 7, 3) := by decide +kernel
theorem dX6_pass_35 : decode cX6_pass 35 = .ok (.iconst 5, 1) := by decide +kernel
theorem dX6_pass_36 : decode cX6_pass 36 = .ok (.iaload, 1) := by decide +kernel
theorem dX6_pass_37 : decode cX6_pass 37 = .ok (.iload_n 1, 1) := by decide +kernel
theorem dX6_pass_38 : decode cX6_pass 38 = .ok (.iadd, 1) := by decide +kernel
theorem dX6_pass_39 : decode cX6_pass 39 = .ok (.ldc 137, 2) := by decide +kernel
theorem dX6_pass_41 : decode cX6_pass 41 = .ok (.if_icmp .le 9, 3) := by decide +kernel
theorem dX6_pass_44 : decode cX6_pass 44 = .ok (.aload_n 0, 1) := by decide +kernel
theorem dX6_pass_45 : decode cX6_pass 45 = .ok (.iconst 2, 1) := by decide +kernel
theorem dX6_pass_46 : decode cX6_pass 46 = .ok (.invokevirtual 119, 3) := by decide +kernel
theorem dX6_pass_49 : decode cX6_pass 49 = .ok (.ireturn, 1) := by decide +kernel
theorem dX6_pass_50 : decode cX6_pass 50 = .ok (.aload_n 0, 1) := by decide +kernel
theorem dX6_pass_51 : decode cX6_pass 51 = .ok (.invokevirtual 122, 3) := by decide +kernel
theorem dX6_pass_54 : decode cX6_pass 54 = .ok (.aload_n 0, 1) := by decide +kernel
theorem dX6_pass_55 : decode cX6_pass 55 = .ok (.invokevirtual 102, 3) := by decide +kernel
theorem dX6_pass_58 : decode cX6_pass 58 = .ok (.iconst 0, 1) := by decide +kernel
theorem dX6_pass_59 : decode cX6_pass 59 = .ok (.istore_n 3, 1) := by decide +kernel
theorem dX6_pass_60 : decode cX6_pass 60 = .ok (.iconst 0, 1) := by decide +kernel
theorem dX6_pass_61 : decode cX6_pass 61 = .ok (.istore 4, 2) := by decide +kernel
theorem dX6_pass_63 : decode cX6_pass 63 = .ok (.iload 4, 2) := by decide +kernel
theorem dX6_pass_65 : decode cX6_pass 65 = .ok (.iload_n 1, 1) := by decide +kernel
theorem dX6_pass_66 : decode cX6_pass 66 = .ok (.if_icmp .ge 56, 3) := by decide +kernel
theorem dX6_pass_69 : decode cX6_pass 69 = .ok (.aload_n 0, 1) := by decide +kernel
theorem dX6_pass_70 : decode cX6_pass 70 = .ok (.aload_n 0, 1) := by decide +kernel
theorem dX6_pass_71 : decode cX6_pass 71 = .ok (.getfield 7, 3) := by decide +kernel
theorem dX6_pass_74 : decode cX6_pass 74 = .ok (.bipush 6, 2) := by decide +kernel
theorem dX6_pass_76 : decode cX6_pass 76 = .ok (.iaload, 1) := by decide +kernel
theorem dX6_pass_77 : decode cX6_pass 77 = .ok (.invokevirtual 105, 3) := by decide +kernel
theorem dX6_pass_80 : decode cX6_pass 80 = .ok (.aload_n 0, 1) := by decide +kernel
theorem dX6_pass_81 : decode cX6_pass 81 = .ok (.getfield 7, 3) := by decide +kernel
theorem dX6_pass_84 : decode cX6_pass 84 = .ok (.bipush 6, 2) := by decide +kernel
theorem dX6_pass_86 : decode cX6_pass 86 = .ok (.aload_n 0, 1) := by decide +kernel
theorem dX6_pass_87 : decode cX6_pass 87 = .ok (.getfield 7, 3) := by decide +kernel
theorem dX6_pass_90 : decode cX6_pass 90 = .ok (.bipush 6, 2) := by decide +kernel
theorem dX6_pass_92 : decode cX6_pass 92 = .ok (.iaload, 1) := by decide +kernel
theorem dX6_pass_93 : decode cX6_pass 93 = .ok (.iconst 1, 1) := by decide +kernel
theorem dX6_pass_94 : decode cX6_pass 94 = .ok (.iadd, 1) := by decide +kernel
theorem dX6_pass_95 : decode cX6_pass 95 = .ok (.iload_n 2, 1) := by decide +kernel
theorem dX6_pass_96 : decode cX6_pass 96 = .ok (.irem, 1) := by decide +kernel
theorem dX6_pass_97 : decode cX6_pass 97 = .ok (.iastore, 1) := by decide +kernel
theorem dX6_pass_98 : decode cX6_pass 98 = .ok (.iload_n 3, 1) := by decide +kernel
theorem dX6_pass_99 : decode cX6_pass 99 = .ok (.aload_n 0, 1) := by decide +kernel
theorem dX6_pass_100 : decode cX6_pass 100 = .ok (.getfield 7, 3) := by decide +kernel
theorem dX6_pass_103 : decode cX6_pass 103 = .ok (.bipush 6, 2) := by decide +kernel
theorem dX6_pass_105 : decode cX6_pass 105 = .ok (.iaload, 1) := by decide +kernel
theorem dX6_pass_106 : decode cX6_pass 106 = .ok (.ifCond .ne 7, 3) := by decide +kernel
theorem dX6_pass_109 : decode cX6_pass 109 = .ok (.iconst 1, 1) := by decide +kernel
theorem dX6_pass_110 : decode cX6_pass 110 = .ok (.goto 4, 3) := by decide +kernel
theorem dX6_pass_113 : decode cX6_pass 113 = .ok (.iconst 0, 1) := by decide +kernel
theorem dX6_pass_114 : decode cX6_pass 114 = .ok (.iadd, 1) := by decide +kernel
theorem dX6_pass_115 : decode cX6_pass 115 = .ok (.istore_n 3, 1) := by decide +kernel
theorem dX6_pass_116 : decode cX6_pass 116 = .ok (.iinc 4 1, 3) := by decide +kernel
theorem dX6_pass_119 : decode cX6_pass 119 = .ok (.goto (-56), 3) := by decide +kernel
theorem dX6_pass_122 : decode cX6_pass 122 = .ok (.iconst 0, 1) := by decide +kernel
theorem dX6_pass_123 : decode cX6_pass 123 = .ok (.istore 4, 2) := by decide +kernel
theorem dX6_pass_125 : decode cX6_pass 125 = .ok (.iload 4, 2) := by decide +kernel
theorem dX6_pass_127 : decode cX6_pass 127 = .ok (.bipush 48, 2) := by decide +kernel
theorem dX6_pass_129 : decode cX6_pass 129 = .ok (.if_icmp .ge 26, 3) := by decide +kernel
theorem dX6_pass_132 : decode cX6_pass 132 = .ok (.aload_n 0, 1) := by decide +kernel
theorem dX6_pass_133 : decode cX6_pass 133 = .ok (.getfield 7, 3) := by decide +kernel
theorem dX6_pass_136 : decode cX6_pass 136 = .ok (.bipush 32, 2) := by decide +kernel
theorem dX6_pass_138 : decode cX6_pass 138 = .ok (.iload 4, 2) := by decide +kernel
theorem dX6_pass_140 : decode cX6_pass 140 = .ok (.iadd, 1) := by decide +kernel
theorem dX6_pass_141 : decode cX6_pass 141 = .ok (.aload_n 0, 1) := by decide +kernel
theorem dX6_pass_142 : decode cX6_pass 142 = .ok (.getfield 32, 3) := by decide +kernel
theorem dX6_pass_145 : decode cX6_pass 145 = .ok (.iload 4, 2) := by decide +kernel
theorem dX6_pass_147 : decode cX6_pass 147 = .ok (.iaload, 1) := by decide +kernel
theorem dX6_pass_148 : decode cX6_pass 148 = .ok (.iastore, 1) := by decide +kernel
theorem dX6_pass_149 : decode cX6_pass 149 = .ok (.iinc 4 1, 3) := by decide +kernel
theorem dX6_pass_152 : decode cX6_pass 152 = .ok (.goto (-27), 3) := by decide +kernel
theorem dX6_pass_155 : decode cX6_pass 155 = .ok (.aload_n 0, 1) := by decide +kernel
theorem dX6_pass_156 : decode cX6_pass 156 = .ok (.getfield 7, 3) := by decide +kernel
theorem dX6_pass_159 : decode cX6_pass 159 = .ok (.iconst 5, 1) := by decide +kernel
theorem dX6_pass_160 : decode cX6_pass 160 = .ok (.dup2, 1) := by decide +kernel
theorem dX6_pass_161 : decode cX6_pass 161 = .ok (.iaload, 1) := by decide +kernel
theorem dX6_pass_162 : decode cX6_pass 162 = .ok (.iload_n 1, 1) := by decide +kernel
theorem dX6_pass_163 : decode cX6_pass 163 = .ok (.iadd, 1) := by decide +kernel
theorem dX6_pass_164 : decode cX6_pass 164 = .ok (.iastore, 1) := by decide +kernel
theorem dX6_pass_165 : decode cX6_pass 165 = .ok (.aload_n 0, 1) := by decide +kernel
theorem dX6_pass_166 : decode cX6_pass 166 = .ok (.getfield 7, 3) := by decide +kernel
theorem dX6_pass_169 : decode cX6_pass 169 = .ok (.bipush 7, 2) := by decide +kernel
theorem dX6_pass_171 : decode cX6_pass 171 = .ok (.dup2, 1) := by decide +kernel
theorem dX6_pass_172 : decode cX6_pass 172 = .ok (.iaload, 1) := by decide +kernel
theorem dX6_pass_173 : decode cX6_pass 173 = .ok (.iload_n 3, 1) := by decide +kernel
theorem dX6_pass_174 : decode cX6_pass 174 = .ok (.iadd, 1) := by decide +kernel
theorem dX6_pass_175 : decode cX6_pass 175 = .ok (.iastore, 1) := by decide +kernel
theorem dX6_pass_176 : decode cX6_pass 176 = .ok (.iload_n 3, 1) := by decide +kernel
theorem dX6_pass_177 : decode cX6_pass 177 = .ok (.ireturn, 1) := by decide +kernel
theorem dX6_append_0 : decode cX6_append 0 = .ok (.aload_n 0, 1) := by decide +kernel
theorem dX6_append_1 : decode cX6_append 1 = .ok (.iconst 0, 1) := by decide +kernel
theorem dX6_append_2 : decode cX6_append 2 = .ok (.putfield 47, 3) := by decide +kernel
theorem dX6_append_5 : decode cX6_append 5 = .ok (.iload_n 1, 1) := by decide +kernel
theorem dX6_append_6 : decode cX6_append 6 = .ok (.bipush 33, 2) := by decide +kernel
theorem dX6_append_8 : decode cX6_append 8 = .ok (.bipush 126, 2) := by decide +kernel
theorem dX6_append_10 : decode cX6_append 10 = .ok (.invokestatic 55, 3) := by decide +kernel
theorem dX6_append_13 : decode cX6_append 13 = .ok (.ifCond .ne 9, 3) := by decide +kernel
theorem dX6_append_16 : decode cX6_append 16 = .ok (.aload_n 0, 1) := by decide +kernel
theorem dX6_append_17 : decode cX6_append 17 = .ok (.iconst 1, 1) := by decide +kernel
theorem dX6_append_18 : decode cX6_append 18 = .ok (.invokevirtual 119, 3) := by decide +kernel
theorem dX6_append_21 : decode cX6_append 21 = .ok (.ireturn, 1) := by decide +kernel
theorem dX6_append_22 : decode cX6_append 22 = .ok (.aload_n 0, 1) := by decide +kernel
theorem dX6_append_23 : decode cX6_append 23 = .ok (.getfield 138, 3) := by decide +kernel
theorem dX6_append_26 : decode cX6_append 26 = .ok (.bipush 12, 2) := by decide +kernel
theorem dX6_append_28 : decode cX6_append 28 = .ok (.if_icmp .ne 9, 3) := by decide +kernel
theorem dX6_append_31 : decode cX6_append 31 = .ok (.aload_n 0, 1) := by decide +kernel
theorem dX6_append_32 : decode cX6_append 32 = .ok (.iconst 2, 1) := by decide +kernel
theorem dX6_append_33 : decode cX6_append 33 = .ok (.invokevirtual 119, 3) := by decide +kernel
theorem dX6_append_36 : decode cX6_append 36 = .ok (.ireturn, 1) := by decide +kernel
theorem dX6_append_37 : decode cX6_append 37 = .ok (.aload_n 0, 1) := by decide +kernel
theorem dX6_append_38 : decode cX6_append 38 = .ok (.getfield 23, 3) := by decide +kernel
theorem dX6_append_41 : decode cX6_append 41 = .ok (.aload_n 0, 1) := by decide +kernel
theorem dX6_append_42 : decode cX6_append 42 = .ok (.getfield 138, 3) := by decide +kernel
theorem dX6_append_45 : decode cX6_append 45 = .ok (.iload_n 1, 1) := by decide +kernel
theorem dX6_append_46 : decode cX6_append 46 = .ok (.iastore, 1) := by decide +kernel
theorem dX6_append_47 : decode cX6_append 47 = .ok (.aload_n 0, 1) := by decide +kernel
theorem dX6_append_48 : decode cX6_append 48 = .ok (.dup, 1) := by decide +kernel
theorem dX6_append_49 : decode cX6_append 49 = .ok (.getfield 138, 3) := by decide +kernel
theorem dX6_append_52 : decode cX6_append 52 = .ok (.iconst 1, 1) := by decide +kernel
theorem dX6_append_53 : decode cX6_append 53 = .ok (.iadd, 1) := by decide +kernel
theorem dX6_append_54 : decode cX6_append 54 = .ok (.putfield 138, 3) := by decide +kernel
theorem dX6_append_57 : decode cX6_append 57 = .ok (.aload_n 0, 1) := by decide +kernel
theorem dX6_append_58 : decode cX6_append 58 = .ok (.getfield 138, 3) := by decide +kernel
theorem dX6_append_61 : decode cX6_append 61 = .ok (.ireturn, 1) := by decide +kernel
theorem dX6_clearBuffer_0 : decode cX6_clearBuffer 0 = .ok (.aload_n 0, 1) := by decide +kernel
theorem dX6_clearBuffer_1 : decode cX6_clearBuffer 1 = .ok (.iconst 0, 1) := by decide +kernel
theorem dX6_clearBuffer_2 : decode cX6_clearBuffer 2 = .ok (.putfield 47, 3) := by decide +kernel
theorem dX6_clearBuffer_5 : decode cX6_clearBuffer 5 = .ok (.aload_n 0, 1) := by decide +kernel
theorem dX6_clearBuffer_6 : decode cX6_clearBuffer 6 = .ok (.getfield 138, 3) := by decide +kernel
theorem dX6_clearBuffer_9 : decode cX6_clearBuffer 9 = .ok (.istore_n 1, 1) := by decide +kernel
theorem dX6_clearBuffer_10 : decode cX6_clearBuffer 10 = .ok (.aload_n 0, 1) := by decide +kernel
theorem dX6_clearBuffer_11 : decode cX6_clearBuffer 11 = .ok (.iconst 0, 1) := by decide +kernel
theorem dX6_clearBuffer_12 : decode cX6_clearBuffer 12 = .ok (.putfield 138, 3) := by decide +kernel
theorem dX6_clearBuffer_15 : decode cX6_clearBuffer 15 = .ok (.iload_n 1, 1) := by decide +kernel
theorem dX6_clearBuffer_16 : decode cX6_clearBuffer 16 = .ok (.ireturn, 1) := by decide +kernel
theorem dX6_letter_0 : decode cX6_letter 0 = .ok (.aload_n 0, 1) := by decide +kernel
theorem dX6_letter_1 : decode cX6_letter 1 = .ok (.getfield 141, 3) := by decide +kernel
theorem dX6_letter_4 : decode cX6_letter 4 = .ok (.aload_n 0, 1) := by decide +kernel
theorem dX6_letter_5 : decode cX6_letter 5 = .ok (.getfield 138, 3) := by decide +kernel
theorem dX6_letter_8 : decode cX6_letter 8 = .ok (.if_icmp .ge 15, 3) := by decide +kernel
theorem dX6_letter_11 : decode cX6_letter 11 = .ok (.aload_n 0, 1) := by decide +kernel
theorem dX6_letter_12 : decode cX6_letter 12 = .ok (.getfield 23, 3) := by decide +kernel
theorem dX6_letter_15 : decode cX6_letter 15 = .ok (.aload_n 0, 1) := by decide +kernel
theorem dX6_letter_16 : decode cX6_letter 16 = .ok (.getfield 141, 3) := by decide +kernel
theorem dX6_letter_19 : decode cX6_letter 19 = .ok (.iaload, 1) := by decide +kernel
theorem dX6_letter_20 : decode cX6_letter 20 = .ok (.goto 4, 3) := by decide +kernel
theorem dX6_letter_23 : decode cX6_letter 23 = .ok (.iconst 0, 1) := by decide +kernel
theorem dX6_letter_24 : decode cX6_letter 24 = .ok (.ireturn, 1) := by decide +kernel
theorem dX6_signOf_0 : decode cX6_signOf 0 = .ok (.iload_n 0, 1) := by decide +kernel
theorem dX6_signOf_1 : decode cX6_signOf 1 = .ok (.bipush 48, 2) := by decide +kernel
theorem dX6_signOf_3 : decode cX6_signOf 3 = .ok (.bipush 57, 2) := by decide +kernel
theorem dX6_signOf_5 : decode cX6_signOf 5 = .ok (.invokestatic 55, 3) := by decide +kernel
theorem dX6_signOf_8 : decode cX6_signOf 8 = .ok (.ifCond .eq 8, 3) := by decide +kernel
theorem dX6_signOf_11 : decode cX6_signOf 11 = .ok (.iload_n 0, 1) := by decide +kernel
theorem dX6_signOf_12 : decode cX6_signOf 12 = .ok (.bipush 48, 2) := by decide +kernel
theorem dX6_signOf_14 : decode cX6_signOf 14 = .ok (.isub, 1) := by decide +kernel
theorem dX6_signOf_15 : decode cX6_signOf 15 = .ok (.ireturn, 1) := by decide +kernel
theorem dX6_signOf_16 : decode cX6_signOf 16 = .ok (.iload_n 0, 1) := by decide +kernel
theorem dX6_signOf_17 : decode cX6_signOf 17 = .ok (.bipush 65, 2) := by decide +kernel
theorem dX6_signOf_19 : decode cX6_signOf 19 = .ok (.bipush 70, 2) := by decide +kernel
theorem dX6_signOf_21 : decode cX6_signOf 21 = .ok (.invokestatic 55, 3) := by decide +kernel
theorem dX6_signOf_24 : decode cX6_signOf 24 = .ok (.ifCond .eq 13, 3) := by decide +kernel
theorem dX6_signOf_27 : decode cX6_signOf 27 = .ok (.iload_n 0, 1) := by decide +kernel
theorem dX6_signOf_28 : decode cX6_signOf 28 = .ok (.bipush 65, 2) := by decide +kernel
theorem dX6_signOf_30 : decode cX6_signOf 30 = .ok (.isub, 1) := by decide +kernel
theorem dX6_signOf_31 : decode cX6_signOf 31 = .ok (.bipush 10, 2) := by decide +kernel
theorem dX6_signOf_33 : decode cX6_signOf 33 = .ok (.iadd, 1) := by decide +kernel
theorem dX6_signOf_34 : decode cX6_signOf 34 = .ok (.goto 26, 3) := by decide +kernel
theorem dX6_signOf_37 : decode cX6_signOf 37 = .ok (.iload_n 0, 1) := by decide +kernel
theorem dX6_signOf_38 : decode cX6_signOf 38 = .ok (.bipush 45, 2) := by decide +kernel
theorem dX6_signOf_40 : decode cX6_signOf 40 = .ok (.if_icmp .ne 8, 3) := by decide +kernel
theorem dX6_signOf_43 : decode cX6_signOf 43 = .ok (.bipush 16, 2) := by decide +kernel
theorem dX6_signOf_45 : decode cX6_signOf 45 = .ok (.goto 15, 3) := by decide +kernel
theorem dX6_signOf_48 : decode cX6_signOf 48 = .ok (.iload_n 0, 1) := by decide +kernel
theorem dX6_signOf_49 : decode cX6_signOf 49 = .ok (.bipush 95, 2) := by decide +kernel
theorem dX6_signOf_51 : decode cX6_signOf 51 = .ok (.if_icmp .ne 8, 3) := by decide +kernel
theorem dX6_signOf_54 : decode cX6_signOf 54 = .ok (.bipush 17, 2) := by decide +kernel
theorem dX6_signOf_56 : decode cX6_signOf 56 = .ok (.goto 4, 3) := by decide +kernel
theorem dX6_signOf_59 : decode cX6_signOf 59 = .ok (.iconst (-1), 1) := by decide +kernel
theorem dX6_signOf_60 : decode cX6_signOf 60 = .ok (.ireturn, 1) := by decide +kernel
theorem dX6_letterOf_0 : decode cX6_letterOf 0 = .ok (.iload_n 0, 1) := by decide +kernel
theorem dX6_letterOf_1 : decode cX6_letterOf 1 = .ok (.iconst (-1), 1) := by decide +kernel
theorem dX6_letterOf_2 : decode cX6_letterOf 2 = .ok (.if_icmp .ne 6, 3) := by decide +kernel
theorem dX6_letterOf_5 : decode cX6_letterOf 5 = .ok (.bipush 63, 2) := by decide +kernel
theorem dX6_letterOf_7 : decode cX6_letterOf 7 = .ok (.ireturn, 1) := by decide +kernel
theorem dX6_letterOf_8 : decode cX6_letterOf 8 = .ok (.iload_n 0, 1) := by decide +kernel
theorem dX6_letterOf_9 : decode cX6_letterOf 9 = .ok (.bipush 10, 2) := by decide +kernel
theorem dX6_letterOf_11 : decode cX6_letterOf 11 = .ok (.if_icmp .ge 10, 3) := by decide +kernel
theorem dX6_letterOf_14 : decode cX6_letterOf 14 = .ok (.bipush 48, 2) := by decide +kernel
theorem dX6_letterOf_16 : decode cX6_letterOf 16 = .ok (.iload_n 0, 1) := by decide +kernel
theorem dX6_letterOf_17 : decode cX6_letterOf 17 = .ok (.iadd, 1) := by decide +kernel
theorem dX6_letterOf_18 : decode cX6_letterOf 18 = .ok (.goto 32, 3) := by decide +kernel
theorem dX6_letterOf_21 : decode cX6_letterOf 21 = .ok (.iload_n 0, 1) := by decide +kernel
theorem dX6_letterOf_22 : decode cX6_letterOf 22 = .ok (.bipush 16, 2) := by decide +kernel
theorem dX6_letterOf_24 : decode cX6_letterOf 24 = .ok (.if_icmp .ge 13, 3) := by decide +kernel
theorem dX6_letterOf_27 : decode cX6_letterOf 27 = .ok (.bipush 65, 2) := by decide +kernel
theorem dX6_letterOf_29 : decode cX6_letterOf 29 = .ok (.iload_n 0, 1) := by decide +kernel
theorem dX6_letterOf_30 : decode cX6_letterOf 30 = .ok (.iadd, 1) := by decide +kernel
theorem dX6_letterOf_31 : decode cX6_letterOf 31 = .ok (.bipush 10, 2) := by decide +kernel
theorem dX6_letterOf_33 : decode cX6_letterOf 33 = .ok (.isub, 1) := by decide +kernel
theorem dX6_letterOf_34 : decode cX6_letterOf 34 = .ok (.goto 16, 3) := by decide +kernel
theorem dX6_letterOf_37 : decode cX6_letterOf 37 = .ok (.iload_n 0, 1) := by decide +kernel
theorem dX6_letterOf_38 : decode cX6_letterOf 38 = .ok (.bipush 16, 2) := by decide +kernel
theorem dX6_letterOf_40 : decode cX6_letterOf 40 = .ok (.if_icmp .ne 8, 3) := by decide +kernel
theorem dX6_letterOf_43 : decode cX6_letterOf 43 = .ok (.bipush 45, 2) := by decide +kernel
theorem dX6_letterOf_45 : decode cX6_letterOf 45 = .ok (.goto 5, 3) := by decide +kernel
theorem dX6_letterOf_48 : decode cX6_letterOf 48 = .ok (.bipush 95, 2) := by decide +kernel
theorem dX6_letterOf_50 : decode cX6_letterOf 50 = .ok (.ireturn, 1) := by decide +kernel
theorem dX6_readsSign_0 : decode cX6_readsSign 0 = .ok (.aload_n 0, 1) := by decide +kernel
theorem dX6_readsSign_1 : decode cX6_readsSign 1 = .ok (.invokevirtual 144, 3) := by decide +kernel
theorem dX6_readsSign_4 : decode cX6_readsSign 4 = .ok (.invokestatic 147, 3) := by decide +kernel
theorem dX6_readsSign_7 : decode cX6_readsSign 7 = .ok (.istore_n 1, 1) := by decide +kernel
theorem dX6_readsSign_8 : decode cX6_readsSign 8 = .ok (.aload_n 0, 1) := by decide +kernel
theorem dX6_readsSign_9 : decode cX6_readsSign 9 = .ok (.iload_n 1, 1) := by decide +kernel
theorem dX6_readsSign_10 : decode cX6_readsSign 10 = .ok (.iconst (-1), 1) := by decide +kernel
theorem dX6_readsSign_11 : decode cX6_readsSign 11 = .ok (.if_icmp .eq 16, 3) := by decide +kernel
theorem dX6_readsSign_14 : decode cX6_readsSign 14 = .ok (.aload_n 0, 1) := by decide +kernel
theorem dX6_readsSign_15 : decode cX6_readsSign 15 = .ok (.getfield 150, 3) := by decide +kernel
theorem dX6_readsSign_18 : decode cX6_readsSign 18 = .ok (.bipush 6, 2) := by decide +kernel
theorem dX6_readsSign_20 : decode cX6_readsSign 20 = .ok (.if_icmp .ge 7, 3) := by decide +kernel
theorem dX6_readsSign_23 : decode cX6_readsSign 23 = .ok (.iconst 1, 1) := by decide +kernel
theorem dX6_readsSign_24 : decode cX6_readsSign 24 = .ok (.goto 4, 3) := by decide +kernel
theorem dX6_readsSign_27 : decode cX6_readsSign 27 = .ok (.iconst 0, 1) := by decide +kernel
theorem dX6_readsSign_28 : decode cX6_readsSign 28 = .ok (.putfield 153, 3) := by decide +kernel
theorem dX6_readsSign_31 : decode cX6_readsSign 31 = .ok (.aload_n 0, 1) := by decide +kernel
theorem dX6_readsSign_32 : decode cX6_readsSign 32 = .ok (.dup, 1) := by decide +kernel
theorem dX6_readsSign_33 : decode cX6_readsSign 33 = .ok (.getfield 141, 3) := by decide +kernel
theorem dX6_readsSign_36 : decode cX6_readsSign 36 = .ok (.aload_n 0, 1) := by decide +kernel
theorem dX6_readsSign_37 : decode cX6_readsSign 37 = .ok (.getfield 153, 3) := by decide +kernel
theorem dX6_readsSign_40 : decode cX6_readsSign 40 = .ok (.ifCond .eq 7, 3) := by decide +kernel
theorem dX6_readsSign_43 : decode cX6_readsSign 43 = .ok (.iconst 1, 1) := by decide +kernel
theorem dX6_readsSign_44 : decode cX6_readsSign 44 = .ok (.goto 4, 3) := by decide +kernel
theorem dX6_readsSign_47 : decode cX6_readsSign 47 = .ok (.iconst 0, 1) := by decide +kernel
theorem dX6_readsSign_48 : decode cX6_readsSign 48 = .ok (.iadd, 1) := by decide +kernel
theorem dX6_readsSign_49 : decode cX6_readsSign 49 = .ok (.putfield 141, 3) := by decide +kernel
theorem dX6_readsSign_52 : decode cX6_readsSign 52 = .ok (.aload_n 0, 1) := by decide +kernel
theorem dX6_readsSign_53 : decode cX6_readsSign 53 = .ok (.getfield 26, 3) := by decide +kernel
theorem dX6_readsSign_56 : decode cX6_readsSign 56 = .ok (.aload_n 0, 1) := by decide +kernel
theorem dX6_readsSign_57 : decode cX6_readsSign 57 = .ok (.getfield 150, 3) := by decide +kernel
theorem dX6_readsSign_60 : decode cX6_readsSign 60 = .ok (.iload_n 1, 1) := by decide +kernel
theorem dX6_readsSign_61 : decode cX6_readsSign 61 = .ok (.iastore, 1) := by decide +kernel
theorem dX6_readsSign_62 : decode cX6_readsSign 62 = .ok (.aload_n 0, 1) := by decide +kernel
theorem dX6_readsSign_63 : decode cX6_readsSign 63 = .ok (.getfield 29, 3) := by decide +kernel
theorem dX6_readsSign_66 : decode cX6_readsSign 66 = .ok (.aload_n 0, 1) := by decide +kernel
theorem dX6_readsSign_67 : decode cX6_readsSign 67 = .ok (.getfield 150, 3) := by decide +kernel
theorem dX6_readsSign_70 : decode cX6_readsSign 70 = .ok (.aload_n 0, 1) := by decide +kernel
theorem dX6_readsSign_71 : decode cX6_readsSign 71 = .ok (.getfield 153, 3) := by decide +kernel
theorem dX6_readsSign_74 : decode cX6_readsSign 74 = .ok (.ifCond .eq 16, 3) := by decide +kernel
theorem dX6_readsSign_77 : decode cX6_readsSign 77 = .ok (.aload_n 0, 1) := by decide +kernel
theorem dX6_readsSign_78 : decode cX6_readsSign 78 = .ok (.invokevirtual 144, 3) := by decide +kernel
theorem dX6_readsSign_81 : decode cX6_readsSign 81 = .ok (.bipush 46, 2) := by decide +kernel
theorem dX6_readsSign_83 : decode cX6_readsSign 83 = .ok (.if_icmp .ne 7, 3) := by decide +kernel
theorem dX6_readsSign_86 : decode cX6_readsSign 86 = .ok (.iconst 1, 1) := by decide +kernel
theorem dX6_readsSign_87 : decode cX6_readsSign 87 = .ok (.goto 4, 3) := by decide +kernel
theorem dX6_readsSign_90 : decode cX6_readsSign 90 = .ok (.iconst 0, 1) := by decide +kernel
theorem dX6_readsSign_91 : decode cX6_readsSign 91 = .ok (.iastore, 1) := by decide +kernel
theorem dX6_readsSign_92 : decode cX6_readsSign 92 = .ok (.aload_n 0, 1) := by decide +kernel
theorem dX6_readsSign_93 : decode cX6_readsSign 93 = .ok (.dup, 1) := by decide +kernel
theorem dX6_readsSign_94 : decode cX6_readsSign 94 = .ok (.getfield 141, 3) := by decide +kernel
theorem dX6_readsSign_97 : decode cX6_readsSign 97 = .ok (.aload_n 0, 1) := by decide +kernel
theorem dX6_readsSign_98 : decode cX6_readsSign 98 = .ok (.getfield 29, 3) := by decide +kernel
theorem dX6_readsSign_101 : decode cX6_readsSign 101 = .ok (.aload_n 0, 1) := by decide +kernel
theorem dX6_readsSign_102 : decode cX6_readsSign 102 = .ok (.getfield 150, 3) := by decide +kernel
theorem dX6_readsSign_105 : decode cX6_readsSign 105 = .ok (.iaload, 1) := by decide +kernel
theorem dX6_readsSign_106 : decode cX6_readsSign 106 = .ok (.iadd, 1) := by decide +kernel
theorem dX6_readsSign_107 : decode cX6_readsSign 107 = .ok (.putfield 141, 3) := by decide +kernel
theorem dX6_readsSign_110 : decode cX6_readsSign 110 = .ok (.aload_n 0, 1) := by decide +kernel
theorem dX6_readsSign_111 : decode cX6_readsSign 111 = .ok (.dup, 1) := by decide +kernel
theorem dX6_readsSign_112 : decode cX6_readsSign 112 = .ok (.getfield 150, 3) := by decide +kernel
theorem dX6_readsSign_115 : decode cX6_readsSign 115 = .ok (.aload_n 0, 1) := by decide +kernel
theorem dX6_readsSign_116 : decode cX6_readsSign 116 = .ok (.getfield 153, 3) := by decide +kernel
theorem dX6_readsSign_119 : decode cX6_readsSign 119 = .ok (.ifCond .eq 7, 3) := by decide +kernel
theorem dX6_readsSign_122 : decode cX6_readsSign 122 = .ok (.iconst 1, 1) := by decide +kernel
theorem dX6_readsSign_123 : decode cX6_readsSign 123 = .ok (.goto 4, 3) := by decide +kernel
theorem dX6_readsSign_126 : decode cX6_readsSign 126 = .ok (.iconst 0, 1) := by decide +kernel
theorem dX6_readsSign_127 : decode cX6_readsSign 127 = .ok (.iadd, 1) := by decide +kernel
theorem dX6_readsSign_128 : decode cX6_readsSign 128 = .ok (.putfield 150, 3) := by decide +kernel
theorem dX6_readsSign_131 : decode cX6_readsSign 131 = .ok (.return_, 1) := by decide +kernel
theorem dX6_readsAll_0 : decode cX6_readsAll 0 = .ok (.aload_n 0, 1) := by decide +kernel
theorem dX6_readsAll_1 : decode cX6_readsAll 1 = .ok (.iconst 0, 1) := by decide +kernel
theorem dX6_readsAll_2 : decode cX6_readsAll 2 = .ok (.putfield 141, 3) := by decide +kernel
theorem dX6_readsAll_5 : decode cX6_readsAll 5 = .ok (.aload_n 0, 1) := by decide +kernel
theorem dX6_readsAll_6 : decode cX6_readsAll 6 = .ok (.iconst 0, 1) := by decide +kernel
theorem dX6_readsAll_7 : decode cX6_readsAll 7 = .ok (.putfield 150, 3) := by decide +kernel
theorem dX6_readsAll_10 : decode cX6_readsAll 10 = .ok (.aload_n 0, 1) := by decide +kernel
theorem dX6_readsAll_11 : decode cX6_readsAll 11 = .ok (.invokevirtual 157, 3) := by decide +kernel
theorem dX6_readsAll_14 : decode cX6_readsAll 14 = .ok (.aload_n 0, 1) := by decide +kernel
theorem dX6_readsAll_15 : decode cX6_readsAll 15 = .ok (.getfield 153, 3) := by decide +kernel
theorem dX6_readsAll_18 : decode cX6_readsAll 18 = .ok (.ifCond .eq 21, 3) := by decide +kernel
theorem dX6_readsAll_21 : decode cX6_readsAll 21 = .ok (.aload_n 0, 1) := by decide +kernel
theorem dX6_readsAll_22 : decode cX6_readsAll 22 = .ok (.getfield 141, 3) := by decide +kernel
theorem dX6_readsAll_25 : decode cX6_readsAll 25 = .ok (.aload_n 0, 1) := by decide +kernel
theorem dX6_readsAll_26 : decode cX6_readsAll 26 = .ok (.getfield 138, 3) := by decide +kernel
theorem dX6_readsAll_29 : decode cX6_readsAll 29 = .ok (.if_icmp .ge 10, 3) := by decide +kernel
theorem dX6_readsAll_32 : decode cX6_readsAll 32 = .ok (.aload_n 0, 1) := by decide +kernel
theorem dX6_readsAll_33 : decode cX6_readsAll 33 = .ok (.invokevirtual 157, 3) := by decide +kernel
theorem dX6_readsAll_36 : decode cX6_readsAll 36 = .ok (.goto (-22), 3) := by decide +kernel
theorem dX6_readsAll_39 : decode cX6_readsAll 39 = .ok (.return_, 1) := by decide +kernel
theorem dX6_firstError_0 : decode cX6_firstError 0 = .ok (.aload_n 0, 1) := by decide +kernel
theorem dX6_firstError_1 : decode cX6_firstError 1 = .ok (.iconst 0, 1) := by decide +kernel
theorem dX6_firstError_2 : decode cX6_firstError 2 = .ok (.putfield 47, 3) := by decide +kernel
theorem dX6_firstError_5 : decode cX6_firstError 5 = .ok (.aload_n 0, 1) := by decide +kernel
theorem dX6_firstError_6 : decode cX6_firstError 6 = .ok (.invokevirtual 160, 3) := by decide +kernel
theorem dX6_firstError_9 : decode cX6_firstError 9 = .ok (.aload_n 0, 1) := by decide +kernel
theorem dX6_firstError_10 : decode cX6_firstError 10 = .ok (.getfield 141, 3) := by decide +kernel
theorem dX6_firstError_13 : decode cX6_firstError 13 = .ok (.ireturn, 1) := by decide +kernel
theorem dX6_load_0 : decode cX6_load 0 = .ok (.aload_n 0, 1) := by decide +kernel
theorem dX6_load_1 : decode cX6_load 1 = .ok (.iconst 0, 1) := by decide +kernel
theorem dX6_load_2 : decode cX6_load 2 = .ok (.putfield 47, 3) := by decide +kernel
theorem dX6_load_5 : decode cX6_load 5 = .ok (.aload_n 0, 1) := by decide +kernel
theorem dX6_load_6 : decode cX6_load 6 = .ok (.invokevirtual 160, 3) := by decide +kernel
theorem dX6_load_9 : decode cX6_load 9 = .ok (.aload_n 0, 1) := by decide +kernel
theorem dX6_load_10 : decode cX6_load 10 = .ok (.getfield 153, 3) := by decide +kernel
theorem dX6_load_13 : decode cX6_load 13 = .ok (.ifCond .ne 9, 3) := by decide +kernel
theorem dX6_load_16 : decode cX6_load 16 = .ok (.aload_n 0, 1) := by decide +kernel
theorem dX6_load_17 : decode cX6_load 17 = .ok (.iconst 1, 1) := by decide +kernel
theorem dX6_load_18 : decode cX6_load 18 = .ok (.invokevirtual 119, 3) := by decide +kernel
theorem dX6_load_21 : decode cX6_load 21 = .ok (.ireturn, 1) := by decide +kernel
theorem dX6_load_22 : decode cX6_load 22 = .ok (.aload_n 0, 1) := by decide +kernel
theorem dX6_load_23 : decode cX6_load 23 = .ok (.invokevirtual 122, 3) := by decide +kernel
theorem dX6_load_26 : decode cX6_load 26 = .ok (.aload_n 0, 1) := by decide +kernel
theorem dX6_load_27 : decode cX6_load 27 = .ok (.iconst 0, 1) := by decide +kernel
theorem dX6_load_28 : decode cX6_load 28 = .ok (.putfield 138, 3) := by decide +kernel
theorem dX6_load_31 : decode cX6_load 31 = .ok (.iconst 0, 1) := by decide +kernel
theorem dX6_load_32 : decode cX6_load 32 = .ok (.istore_n 1, 1) := by decide +kernel
theorem dX6_load_33 : decode cX6_load 33 = .ok (.iload_n 1, 1) := by decide +kernel
theorem dX6_load_34 : decode cX6_load 34 = .ok (.bipush 6, 2) := by decide +kernel
theorem dX6_load_36 : decode cX6_load 36 = .ok (.if_icmp .ge 58, 3) := by decide +kernel
theorem dX6_load_39 : decode cX6_load 39 = .ok (.aload_n 0, 1) := by decide +kernel
theorem dX6_load_40 : decode cX6_load 40 = .ok (.iload_n 1, 1) := by decide +kernel
theorem dX6_load_41 : decode cX6_load 41 = .ok (.iconst 0, 1) := by decide +kernel
theorem dX6_load_42 : decode cX6_load 42 = .ok (.iload_n 1, 1) := by decide +kernel
theorem dX6_load_43 : decode cX6_load 43 = .ok (.aload_n 0, 1) := by decide +kernel
theorem dX6_load_44 : decode cX6_load 44 = .ok (.getfield 150, 3) := by decide +kernel
theorem dX6_load_47 : decode cX6_load 47 = .ok (.if_icmp .ge 12, 3) := by decide +kernel
theorem dX6_load_50 : decode cX6_load 50 = .ok (.aload_n 0, 1) := by decide +kernel
theorem dX6_load_51 : decode cX6_load 51 = .ok (.getfield 26, 3) := by decide +kernel
theorem dX6_load_54 : decode cX6_load 54 = .ok (.iload_n 1, 1) := by decide +kernel
theorem dX6_load_55 : decode cX6_load 55 = .ok (.iaload, 1) := by decide +kernel
theorem dX6_load_56 : decode cX6_load 56 = .ok (.goto 5, 3) := by decide +kernel
theorem dX6_load_59 : decode cX6_load 59 = .ok (.bipush 17, 2) := by decide +kernel
theorem dX6_load_61 : decode cX6_load 61 = .ok (.invokevirtual 51, 3) := by decide +kernel
theorem dX6_load_64 : decode cX6_load 64 = .ok (.aload_n 0, 1) := by decide +kernel
theorem dX6_load_65 : decode cX6_load 65 = .ok (.iload_n 1, 1) := by decide +kernel
theorem dX6_load_66 : decode cX6_load 66 = .ok (.iconst 1, 1) := by decide +kernel
theorem dX6_load_67 : decode cX6_load 67 = .ok (.iload_n 1, 1) := by decide +kernel
theorem dX6_load_68 : decode cX6_load 68 = .ok (.aload_n 0, 1) := by decide +kernel
theorem dX6_load_69 : decode cX6_load 69 = .ok (.getfield 150, 3) := by decide +kernel
theorem dX6_load_72 : decode cX6_load 72 = .ok (.if_icmp .ge 12, 3) := by decide +kernel
theorem dX6_load_75 : decode cX6_load 75 = .ok (.aload_n 0, 1) := by decide +kernel
theorem dX6_load_76 : decode cX6_load 76 = .ok (.getfield 29, 3) := by decide +kernel
theorem dX6_load_79 : decode cX6_load 79 = .ok (.iload_n 1, 1) := by decide +kernel
theorem dX6_load_80 : decode cX6_load 80 = .ok (.iaload, 1) := by decide +kernel
theorem dX6_load_81 : decode cX6_load 81 = .ok (.goto 4, 3) := by decide +kernel
theorem dX6_load_84 : decode cX6_load 84 = .ok (.iconst 0, 1) := by decide +kernel
theorem dX6_load_85 : decode cX6_load 85 = .ok (.invokevirtual 51, 3) := by decide +kernel
theorem dX6_load_88 : decode cX6_load 88 = .ok (.iinc 1 1, 3) := by decide +kernel
theorem dX6_load_91 : decode cX6_load 91 = .ok (.goto (-58), 3) := by decide +kernel
theorem dX6_load_94 : decode cX6_load 94 = .ok (.aload_n 0, 1) := by decide +kernel
theorem dX6_load_95 : decode cX6_load 95 = .ok (.getfield 150, 3) := by decide +kernel
theorem dX6_load_98 : decode cX6_load 98 = .ok (.ireturn, 1) := by decide +kernel
theorem dX6_write_0 : decode cX6_write 0 = .ok (.aload_n 0, 1) := by decide +kernel
theorem dX6_write_1 : decode cX6_write 1 = .ok (.iconst 0, 1) := by decide +kernel
theorem dX6_write_2 : decode cX6_write 2 = .ok (.putfield 47, 3) := by decide +kernel
theorem dX6_write_5 : decode cX6_write 5 = .ok (.aload_n 0, 1) := by decide +kernel
theorem dX6_write_6 : decode cX6_write 6 = .ok (.invokevirtual 163, 3) := by decide +kernel
theorem dX6_write_9 : decode cX6_write 9 = .ok (.aload_n 0, 1) := by decide +kernel
theorem dX6_write_10 : decode cX6_write 10 = .ok (.iconst 0, 1) := by decide +kernel
theorem dX6_write_11 : decode cX6_write 11 = .ok (.putfield 138, 3) := by decide +kernel
theorem dX6_write_14 : decode cX6_write 14 = .ok (.iconst 0, 1) := by decide +kernel
theorem dX6_write_15 : decode cX6_write 15 = .ok (.istore_n 1, 1) := by decide +kernel
theorem dX6_write_16 : decode cX6_write 16 = .ok (.iload_n 1, 1) := by decide +kernel
theorem dX6_write_17 : decode cX6_write 17 = .ok (.bipush 6, 2) := by decide +kernel
theorem dX6_write_19 : decode cX6_write 19 = .ok (.if_icmp .ge 67, 3) := by decide +kernel
theorem dX6_write_22 : decode cX6_write 22 = .ok (.aload_n 0, 1) := by decide +kernel
theorem dX6_write_23 : decode cX6_write 23 = .ok (.getfield 23, 3) := by decide +kernel
theorem dX6_write_26 : decode cX6_write 26 = .ok (.aload_n 0, 1) := by decide +kernel
theorem dX6_write_27 : decode cX6_write 27 = .ok (.getfield 138, 3) := by decide +kernel
theorem dX6_write_30 : decode cX6_write 30 = .ok (.aload_n 0, 1) := by decide +kernel
theorem dX6_write_31 : decode cX6_write 31 = .ok (.iload_n 1, 1) := by decide +kernel
theorem dX6_write_32 : decode cX6_write 32 = .ok (.invokevirtual 166, 3) := by decide +kernel
theorem dX6_write_35 : decode cX6_write 35 = .ok (.invokestatic 169, 3) := by decide +kernel
theorem dX6_write_38 : decode cX6_write 38 = .ok (.iastore, 1) := by decide +kernel
theorem dX6_write_39 : decode cX6_write 39 = .ok (.aload_n 0, 1) := by decide +kernel
theorem dX6_write_40 : decode cX6_write 40 = .ok (.dup, 1) := by decide +kernel
theorem dX6_write_41 : decode cX6_write 41 = .ok (.getfield 138, 3) := by decide +kernel
theorem dX6_write_44 : decode cX6_write 44 = .ok (.iconst 1, 1) := by decide +kernel
theorem dX6_write_45 : decode cX6_write 45 = .ok (.iadd, 1) := by decide +kernel
theorem dX6_write_46 : decode cX6_write 46 = .ok (.putfield 138, 3) := by decide +kernel
theorem dX6_write_49 : decode cX6_write 49 = .ok (.aload_n 0, 1) := by decide +kernel
theorem dX6_write_50 : decode cX6_write 50 = .ok (.iload_n 1, 1) := by decide +kernel
theorem dX6_write_51 : decode cX6_write 51 = .ok (.invokevirtual 112, 3) := by decide +kernel
theorem dX6_write_54 : decode cX6_write 54 = .ok (.bipush 127, 2) := by decide +kernel
theorem dX6_write_56 : decode cX6_write 56 = .ok (.if_icmp .le 24, 3) := by decide +kernel
theorem dX6_write_59 : decode cX6_write 59 = .ok (.aload_n 0, 1) := by decide +kernel
theorem dX6_write_60 : decode cX6_write 60 = .ok (.getfield 23, 3) := by decide +kernel
theorem dX6_write_63 : decode cX6_write 63 = .ok (.aload_n 0, 1) := by decide +kernel
theorem dX6_write_64 : decode cX6_write 64 = .ok (.getfield 138, 3) := by decide +kernel
theorem dX6_write_67 : decode cX6_write 67 = .ok (.bipush 46, 2) := by decide +kernel
theorem dX6_write_69 : decode cX6_write 69 = .ok (.iastore, 1) := by decide +kernel
theorem dX6_write_70 : decode cX6_write 70 = .ok (.aload_n 0, 1) := by decide +kernel
theorem dX6_write_71 : decode cX6_write 71 = .ok (.dup, 1) := by decide +kernel
theorem dX6_write_72 : decode cX6_write 72 = .ok (.getfield 138, 3) := by decide +kernel
theorem dX6_write_75 : decode cX6_write 75 = .ok (.iconst 1, 1) := by decide +kernel
theorem dX6_write_76 : decode cX6_write 76 = .ok (.iadd, 1) := by decide +kernel
theorem dX6_write_77 : decode cX6_write 77 = .ok (.putfield 138, 3) := by decide +kernel
theorem dX6_write_80 : decode cX6_write 80 = .ok (.iinc 1 1, 3) := by decide +kernel
theorem dX6_write_83 : decode cX6_write 83 = .ok (.goto (-67), 3) := by decide +kernel
theorem dX6_write_86 : decode cX6_write 86 = .ok (.aload_n 0, 1) := by decide +kernel
theorem dX6_write_87 : decode cX6_write 87 = .ok (.getfield 138, 3) := by decide +kernel
theorem dX6_write_90 : decode cX6_write 90 = .ok (.ireturn, 1) := by decide +kernel
theorem dX6_keep_0 : decode cX6_keep 0 = .ok (.aload_n 0, 1) := by decide +kernel
theorem dX6_keep_1 : decode cX6_keep 1 = .ok (.iconst 0, 1) := by decide +kernel
theorem dX6_keep_2 : decode cX6_keep 2 = .ok (.putfield 47, 3) := by decide +kernel
theorem dX6_keep_5 : decode cX6_keep 5 = .ok (.iload_n 1, 1) := by decide +kernel
theorem dX6_keep_6 : decode cX6_keep 6 = .ok (.iconst 0, 1) := by decide +kernel
theorem dX6_keep_7 : decode cX6_keep 7 = .ok (.iconst 1, 1) := by decide +kernel
theorem dX6_keep_8 : decode cX6_keep 8 = .ok (.invokestatic 55, 3) := by decide +kernel
theorem dX6_keep_11 : decode cX6_keep 11 = .ok (.ifCond .ne 9, 3) := by decide +kernel
theorem dX6_keep_14 : decode cX6_keep 14 = .ok (.aload_n 0, 1) := by decide +kernel
theorem dX6_keep_15 : decode cX6_keep 15 = .ok (.iconst 1, 1) := by decide +kernel
theorem dX6_keep_16 : decode cX6_keep 16 = .ok (.invokevirtual 119, 3) := by decide +kernel
theorem dX6_keep_19 : decode cX6_keep 19 = .ok (.ireturn, 1) := by decide +kernel
theorem dX6_keep_20 : decode cX6_keep 20 = .ok (.iconst 0, 1) := by decide +kernel
theorem dX6_keep_21 : decode cX6_keep 21 = .ok (.istore_n 2, 1) := by decide +kernel
theorem dX6_keep_22 : decode cX6_keep 22 = .ok (.iload_n 2, 1) := by decide +kernel
theorem dX6_keep_23 : decode cX6_keep 23 = .ok (.bipush 80, 2) := by decide +kernel
theorem dX6_keep_25 : decode cX6_keep 25 = .ok (.if_icmp .ge 26, 3) := by decide +kernel
theorem dX6_keep_28 : decode cX6_keep 28 = .ok (.aload_n 0, 1) := by decide +kernel
theorem dX6_keep_29 : decode cX6_keep 29 = .ok (.getfield 16, 3) := by decide +kernel
theorem dX6_keep_32 : decode cX6_keep 32 = .ok (.bipush 80, 2) := by decide +kernel
theorem dX6_keep_34 : decode cX6_keep 34 = .ok (.iload_n 1, 1) := by decide +kernel
theorem dX6_keep_35 : decode cX6_keep 35 = .ok (.imul, 1) := by decide +kernel
theorem dX6_keep_36 : decode cX6_keep 36 = .ok (.iload_n 2, 1) := by decide +kernel
theorem dX6_keep_37 : decode cX6_keep 37 = .ok (.iadd, 1) := by decide +kernel
theorem dX6_keep_38 : decode cX6_keep 38 = .ok (.aload_n 0, 1) := by decide +kernel
theorem dX6_keep_39 : decode cX6_keep 39 = .ok (.getfield 7, 3) := by decide +kernel
theorem dX6_keep_42 : decode cX6_keep 42 = .ok (.iload_n 2, 1) := by decide +kernel
theorem dX6_keep_43 : decode cX6_keep 43 = .ok (.iaload, 1) := by decide +kernel
theorem dX6_keep_44 : decode cX6_keep 44 = .ok (.iastore, 1) := by decide +kernel
theorem dX6_keep_45 : decode cX6_keep 45 = .ok (.iinc 2 1, 3) := by decide +kernel
theorem dX6_keep_48 : decode cX6_keep 48 = .ok (.goto (-26), 3) := by decide +kernel
theorem dX6_keep_51 : decode cX6_keep 51 = .ok (.aload_n 0, 1) := by decide +kernel
theorem dX6_keep_52 : decode cX6_keep 52 = .ok (.getfield 19, 3) := by decide +kernel
theorem dX6_keep_55 : decode cX6_keep 55 = .ok (.iload_n 1, 1) := by decide +kernel
theorem dX6_keep_56 : decode cX6_keep 56 = .ok (.iconst 1, 1) := by decide +kernel
theorem dX6_keep_57 : decode cX6_keep 57 = .ok (.bastore, 1) := by decide +kernel
theorem dX6_keep_58 : decode cX6_keep 58 = .ok (.aload_n 0, 1) := by decide +kernel
theorem dX6_keep_59 : decode cX6_keep 59 = .ok (.getfield 7, 3) := by decide +kernel
theorem dX6_keep_62 : decode cX6_keep 62 = .ok (.iconst 5, 1) := by decide +kernel
theorem dX6_keep_63 : decode cX6_keep 63 = .ok (.iaload, 1) := by decide +kernel
theorem dX6_keep_64 : decode cX6_keep 64 = .ok (.ireturn, 1) := by decide +kernel
theorem dX6_goBack_0 : decode cX6_goBack 0 = .ok (.aload_n 0, 1) := by decide +kernel
theorem dX6_goBack_1 : decode cX6_goBack 1 = .ok (.iconst 0, 1) := by decide +kernel
theorem dX6_goBack_2 : decode cX6_goBack 2 = .ok (.putfield 47, 3) := by decide +kernel
theorem dX6_goBack_5 : decode cX6_goBack 5 = .ok (.iload_n 1, 1) := by decide +kernel
theorem dX6_goBack_6 : decode cX6_goBack 6 = .ok (.iconst 0, 1) := by decide +kernel
theorem dX6_goBack_7 : decode cX6_goBack 7 = .ok (.iconst 1, 1) := by decide +kernel
theorem dX6_goBack_8 : decode cX6_goBack 8 = .ok (.invokestatic 55, 3) := by decide +kernel
theorem dX6_goBack_11 : decode cX6_goBack 11 = .ok (.ifCond .ne 9, 3) := by decide +kernel
theorem dX6_goBack_14 : decode cX6_goBack 14 = .ok (.aload_n 0, 1) := by decide +kernel
theorem dX6_goBack_15 : decode cX6_goBack 15 = .ok (.iconst 1, 1) := by decide +kernel
theorem dX6_goBack_16 : decode cX6_goBack 16 = .ok (.invokevirtual 119, 3) := by decide +kernel
theorem dX6_goBack_19 : decode cX6_goBack 19 = .ok (.ireturn, 1) := by decide +kernel
theorem dX6_goBack_20 : decode cX6_goBack 20 = .ok (.aload_n 0, 1) := by decide +kernel
theorem dX6_goBack_21 : decode cX6_goBack 21 = .ok (.getfield 19, 3) := by decide +kernel
theorem dX6_goBack_24 : decode cX6_goBack 24 = .ok (.iload_n 1, 1) := by decide +kernel
theorem dX6_goBack_25 : decode cX6_goBack 25 = .ok (.baload, 1) := by decide +kernel
theorem dX6_goBack_26 : decode cX6_goBack 26 = .ok (.ifCond .ne 9, 3) := by decide +kernel
theorem dX6_goBack_29 : decode cX6_goBack 29 = .ok (.aload_n 0, 1) := by decide +kernel
theorem dX6_goBack_30 : decode cX6_goBack 30 = .ok (.iconst 2, 1) := by decide +kernel
theorem dX6_goBack_31 : decode cX6_goBack 31 = .ok (.invokevirtual 119, 3) := by decide +kernel
theorem dX6_goBack_34 : decode cX6_goBack 34 = .ok (.ireturn, 1) := by decide +kernel
theorem dX6_goBack_35 : decode cX6_goBack 35 = .ok (.aload_n 0, 1) := by decide +kernel
theorem dX6_goBack_36 : decode cX6_goBack 36 = .ok (.invokevirtual 122, 3) := by decide +kernel
theorem dX6_goBack_39 : decode cX6_goBack 39 = .ok (.iconst 0, 1) := by decide +kernel
theorem dX6_goBack_40 : decode cX6_goBack 40 = .ok (.istore_n 2, 1) := by decide +kernel
theorem dX6_goBack_41 : decode cX6_goBack 41 = .ok (.iload_n 2, 1) := by decide +kernel
theorem dX6_goBack_42 : decode cX6_goBack 42 = .ok (.bipush 80, 2) := by decide +kernel
theorem dX6_goBack_44 : decode cX6_goBack 44 = .ok (.if_icmp .ge 26, 3) := by decide +kernel
theorem dX6_goBack_47 : decode cX6_goBack 47 = .ok (.aload_n 0, 1) := by decide +kernel
theorem dX6_goBack_48 : decode cX6_goBack 48 = .ok (.getfield 7, 3) := by decide +kernel
theorem dX6_goBack_51 : decode cX6_goBack 51 = .ok (.iload_n 2, 1) := by decide +kernel
theorem dX6_goBack_52 : decode cX6_goBack 52 = .ok (.aload_n 0, 1) := by decide +kernel
theorem dX6_goBack_53 : decode cX6_goBack 53 = .ok (.getfield 16, 3) := by decide +kernel
theorem dX6_goBack_56 : decode cX6_goBack 56 = .ok (.bipush 80, 2) := by decide +kernel
theorem dX6_goBack_58 : decode cX6_goBack 58 = .ok (.iload_n 1, 1) := by decide +kernel
theorem dX6_goBack_59 : decode cX6_goBack 59 = .ok (.imul, 1) := by decide +kernel
theorem dX6_goBack_60 : decode cX6_goBack 60 = .ok (.iload_n 2, 1) := by decide +kernel
theorem dX6_goBack_61 : decode cX6_goBack 61 = .ok (.iadd, 1) := by decide +kernel
theorem dX6_goBack_62 : decode cX6_goBack 62 = .ok (.iaload, 1) := by decide +kernel
theorem dX6_goBack_63 : decode cX6_goBack 63 = .ok (.iastore, 1) := by decide +kernel
theorem dX6_goBack_64 : decode cX6_goBack 64 = .ok (.iinc 2 1, 3) := by decide +kernel
theorem dX6_goBack_67 : decode cX6_goBack 67 = .ok (.goto (-26), 3) := by decide +kernel
theorem dX6_goBack_70 : decode cX6_goBack 70 = .ok (.aload_n 0, 1) := by decide +kernel
theorem dX6_goBack_71 : decode cX6_goBack 71 = .ok (.getfield 7, 3) := by decide +kernel
theorem dX6_goBack_74 : decode cX6_goBack 74 = .ok (.iconst 5, 1) := by decide +kernel
theorem dX6_goBack_75 : decode cX6_goBack 75 = .ok (.iaload, 1) := by decide +kernel
theorem dX6_goBack_76 : decode cX6_goBack 76 = .ok (.ireturn, 1) := by decide +kernel
theorem dX6_undo_0 : decode cX6_undo 0 = .ok (.aload_n 0, 1) := by decide +kernel
theorem dX6_undo_1 : decode cX6_undo 1 = .ok (.iconst 0, 1) := by decide +kernel
theorem dX6_undo_2 : decode cX6_undo 2 = .ok (.putfield 47, 3) := by decide +kernel
theorem dX6_undo_5 : decode cX6_undo 5 = .ok (.aload_n 0, 1) := by decide +kernel
theorem dX6_undo_6 : decode cX6_undo 6 = .ok (.getfield 59, 3) := by decide +kernel
theorem dX6_undo_9 : decode cX6_undo 9 = .ok (.ifCond .ne 9, 3) := by decide +kernel
theorem dX6_undo_12 : decode cX6_undo 12 = .ok (.aload_n 0, 1) := by decide +kernel
theorem dX6_undo_13 : decode cX6_undo 13 = .ok (.iconst 1, 1) := by decide +kernel
theorem dX6_undo_14 : decode cX6_undo 14 = .ok (.invokevirtual 119, 3) := by decide +kernel
theorem dX6_undo_17 : decode cX6_undo 17 = .ok (.ireturn, 1) := by decide +kernel
theorem dX6_undo_18 : decode cX6_undo 18 = .ok (.aload_n 0, 1) := by decide +kernel
theorem dX6_undo_19 : decode cX6_undo 19 = .ok (.dup, 1) := by decide +kernel
theorem dX6_undo_20 : decode cX6_undo 20 = .ok (.getfield 59, 3) := by decide +kernel
theorem dX6_undo_23 : decode cX6_undo 23 = .ok (.iconst 1, 1) := by decide +kernel
theorem dX6_undo_24 : decode cX6_undo 24 = .ok (.isub, 1) := by decide +kernel
theorem dX6_undo_25 : decode cX6_undo 25 = .ok (.putfield 59, 3) := by decide +kernel
theorem dX6_undo_28 : decode cX6_undo 28 = .ok (.iconst 0, 1) := by decide +kernel
theorem dX6_undo_29 : decode cX6_undo 29 = .ok (.istore_n 1, 1) := by decide +kernel
theorem dX6_undo_30 : decode cX6_undo 30 = .ok (.iload_n 1, 1) := by decide +kernel
theorem dX6_undo_31 : decode cX6_undo 31 = .ok (.bipush 80, 2) := by decide +kernel
theorem dX6_undo_33 : decode cX6_undo 33 = .ok (.if_icmp .ge 29, 3) := by decide +kernel
theorem dX6_undo_36 : decode cX6_undo 36 = .ok (.aload_n 0, 1) := by decide +kernel
theorem dX6_undo_37 : decode cX6_undo 37 = .ok (.getfield 7, 3) := by decide +kernel
theorem dX6_undo_40 : decode cX6_undo 40 = .ok (.iload_n 1, 1) := by decide +kernel
theorem dX6_undo_41 : decode cX6_undo 41 = .ok (.aload_n 0, 1) := by decide +kernel
theorem dX6_undo_42 : decode cX6_undo 42 = .ok (.getfield 13, 3) := by decide +kernel
theorem dX6_undo_45 : decode cX6_undo 45 = .ok (.bipush 80, 2) := by decide +kernel
theorem dX6_undo_47 : decode cX6_undo 47 = .ok (.aload_n 0, 1) := by decide +kernel
theorem dX6_undo_48 : decode cX6_undo 48 = .ok (.getfield 59, 3) := by decide +kernel
theorem dX6_undo_51 : decode cX6_undo 51 = .ok (.imul, 1) := by decide +kernel
theorem dX6_undo_52 : decode cX6_undo 52 = .ok (.iload_n 1, 1) := by decide +kernel
theorem dX6_undo_53 : decode cX6_undo 53 = .ok (.iadd, 1) := by decide +kernel
theorem dX6_undo_54 : decode cX6_undo 54 = .ok (.iaload, 1) := by decide +kernel
theorem dX6_undo_55 : decode cX6_undo 55 = .ok (.iastore, 1) := by decide +kernel
theorem dX6_undo_56 : decode cX6_undo 56 = .ok (.iinc 1 1, 3) := by decide +kernel
theorem dX6_undo_59 : decode cX6_undo 59 = .ok (.goto (-29), 3) := by decide +kernel
theorem dX6_undo_62 : decode cX6_undo 62 = .ok (.aload_n 0, 1) := by decide +kernel
theorem dX6_undo_63 : decode cX6_undo 63 = .ok (.getfield 59, 3) := by decide +kernel
theorem dX6_undo_66 : decode cX6_undo 66 = .ok (.ireturn, 1) := by decide +kernel
theorem dX6_isReadWell_0 : decode cX6_isReadWell 0 = .ok (.aload_n 0, 1) := by decide +kernel
theorem dX6_isReadWell_1 : decode cX6_isReadWell 1 = .ok (.iload_n 1, 1) := by decide +kernel
theorem dX6_isReadWell_2 : decode cX6_isReadWell 2 = .ok (.invokevirtual 112, 3) := by decide +kernel
theorem dX6_isReadWell_5 : decode cX6_isReadWell 5 = .ok (.bipush 127, 2) := by decide +kernel
theorem dX6_isReadWell_7 : decode cX6_isReadWell 7 = .ok (.if_icmp .le 7, 3) := by decide +kernel
theorem dX6_isReadWell_10 : decode cX6_isReadWell 10 = .ok (.iconst 1, 1) := by decide +kernel
theorem dX6_isReadWell_11 : decode cX6_isReadWell 11 = .ok (.goto 4, 3) := by decide +kernel
theorem dX6_isReadWell_14 : decode cX6_isReadWell 14 = .ok (.iconst 0, 1) := by decide +kernel
theorem dX6_isReadWell_15 : decode cX6_isReadWell 15 = .ok (.istore_n 2, 1) := by decide +kernel
theorem dX6_isReadWell_16 : decode cX6_isReadWell 16 = .ok (.aload_n 0, 1) := by decide +kernel
theorem dX6_isReadWell_17 : decode cX6_isReadWell 17 = .ok (.iload_n 1, 1) := by decide +kernel
theorem dX6_isReadWell_18 : decode cX6_isReadWell 18 = .ok (.invokevirtual 166, 3) := by decide +kernel
theorem dX6_isReadWell_21 : decode cX6_isReadWell 21 = .ok (.aload_n 0, 1) := by decide +kernel
theorem dX6_isReadWell_22 : decode cX6_isReadWell 22 = .ok (.iload_n 1, 1) := by decide +kernel
theorem dX6_isReadWell_23 : decode cX6_isReadWell 23 = .ok (.iconst 0, 1) := by decide +kernel
theorem dX6_isReadWell_24 : decode cX6_isReadWell 24 = .ok (.invokevirtual 62, 3) := by decide +kernel
theorem dX6_isReadWell_27 : decode cX6_isReadWell 27 = .ok (.if_icmp .ne 26, 3) := by decide +kernel
theorem dX6_isReadWell_30 : decode cX6_isReadWell 30 = .ok (.iload_n 2, 1) := by decide +kernel
theorem dX6_isReadWell_31 : decode cX6_isReadWell 31 = .ok (.aload_n 0, 1) := by decide +kernel
theorem dX6_isReadWell_32 : decode cX6_isReadWell 32 = .ok (.iload_n 1, 1) := by decide +kernel
theorem dX6_isReadWell_33 : decode cX6_isReadWell 33 = .ok (.iconst 1, 1) := by decide +kernel
theorem dX6_isReadWell_34 : decode cX6_isReadWell 34 = .ok (.invokevirtual 62, 3) := by decide +kernel
theorem dX6_isReadWell_37 : decode cX6_isReadWell 37 = .ok (.iconst 1, 1) := by decide +kernel
theorem dX6_isReadWell_38 : decode cX6_isReadWell 38 = .ok (.if_icmp .ne 7, 3) := by decide +kernel
theorem dX6_isReadWell_41 : decode cX6_isReadWell 41 = .ok (.iconst 1, 1) := by decide +kernel
theorem dX6_isReadWell_42 : decode cX6_isReadWell 42 = .ok (.goto 4, 3) := by decide +kernel
theorem dX6_isReadWell_45 : decode cX6_isReadWell 45 = .ok (.iconst 0, 1) := by decide +kernel
theorem dX6_isReadWell_46 : decode cX6_isReadWell 46 = .ok (.if_icmp .ne 7, 3) := by decide +kernel
theorem dX6_isReadWell_49 : decode cX6_isReadWell 49 = .ok (.iconst 1, 1) := by decide +kernel
theorem dX6_isReadWell_50 : decode cX6_isReadWell 50 = .ok (.goto 4, 3) := by decide +kernel
theorem dX6_isReadWell_53 : decode cX6_isReadWell 53 = .ok (.iconst 0, 1) := by decide +kernel
theorem dX6_isReadWell_54 : decode cX6_isReadWell 54 = .ok (.ireturn, 1) := by decide +kernel
theorem dX6_tellsSlot_0 : decode cX6_tellsSlot 0 = .ok (.iload_n 2, 1) := by decide +kernel
theorem dX6_tellsSlot_1 : decode cX6_tellsSlot 1 = .ok (.tableswitch 83 4 9 #[39, 45, 51, 57, 63, 77], 39) := by decide +kernel
theorem dX6_tellsSlot_40 : decode cX6_tellsSlot 40 = .ok (.aload_n 0, 1) := by decide +kernel
theorem dX6_tellsSlot_41 : decode cX6_tellsSlot 41 = .ok (.iload_n 1, 1) := by decide +kernel
theorem dX6_tellsSlot_42 : decode cX6_tellsSlot 42 = .ok (.invokevirtual 73, 3) := by decide +kernel
theorem dX6_tellsSlot_45 : decode cX6_tellsSlot 45 = .ok (.ireturn, 1) := by decide +kernel
theorem dX6_tellsSlot_46 : decode cX6_tellsSlot 46 = .ok (.aload_n 0, 1) := by decide +kernel
theorem dX6_tellsSlot_47 : decode cX6_tellsSlot 47 = .ok (.iload_n 1, 1) := by decide +kernel
theorem dX6_tellsSlot_48 : decode cX6_tellsSlot 48 = .ok (.invokevirtual 82, 3) := by decide +kernel
theorem dX6_tellsSlot_51 : decode cX6_tellsSlot 51 = .ok (.ireturn, 1) := by decide +kernel
theorem dX6_tellsSlot_52 : decode cX6_tellsSlot 52 = .ok (.aload_n 0, 1) := by decide +kernel
theorem dX6_tellsSlot_53 : decode cX6_tellsSlot 53 = .ok (.iload_n 1, 1) := by decide +kernel
theorem dX6_tellsSlot_54 : decode cX6_tellsSlot 54 = .ok (.invokevirtual 112, 3) := by decide +kernel
theorem dX6_tellsSlot_57 : decode cX6_tellsSlot 57 = .ok (.ireturn, 1) := by decide +kernel
theorem dX6_tellsSlot_58 : decode cX6_tellsSlot 58 = .ok (.aload_n 0, 1) := by decide +kernel
theorem dX6_tellsSlot_59 : decode cX6_tellsSlot 59 = .ok (.iload_n 1, 1) := by decide +kernel
theorem dX6_tellsSlot_60 : decode cX6_tellsSlot 60 = .ok (.invokevirtual 166, 3) := by decide +kernel
theorem dX6_tellsSlot_63 : decode cX6_tellsSlot 63 = .ok (.ireturn, 1) := by decide +kernel
theorem dX6_tellsSlot_64 : decode cX6_tellsSlot 64 = .ok (.aload_n 0, 1) := by decide +kernel
theorem dX6_tellsSlot_65 : decode cX6_tellsSlot 65 = .ok (.iload_n 1, 1) := by decide +kernel
theorem dX6_tellsSlot_66 : decode cX6_tellsSlot 66 = .ok (.invokevirtual 172, 3) := by decide +kernel
theorem dX6_tellsSlot_69 : decode cX6_tellsSlot 69 = .ok (.ifCond .eq 7, 3) := by decide +kernel
theorem dX6_tellsSlot_72 : decode cX6_tellsSlot 72 = .ok (.iconst 1, 1) := by decide +kernel
theorem dX6_tellsSlot_73 : decode cX6_tellsSlot 73 = .ok (.goto 4, 3) := by decide +kernel
theorem dX6_tellsSlot_76 : decode cX6_tellsSlot 76 = .ok (.iconst 0, 1) := by decide +kernel
theorem dX6_tellsSlot_77 : decode cX6_tellsSlot 77 = .ok (.ireturn, 1) := by decide +kernel
theorem dX6_tellsSlot_78 : decode cX6_tellsSlot 78 = .ok (.aload_n 0, 1) := by decide +kernel
theorem dX6_tellsSlot_79 : decode cX6_tellsSlot 79 = .ok (.iload_n 1, 1) := by decide +kernel
theorem dX6_tellsSlot_80 : decode cX6_tellsSlot 80 = .ok (.invokevirtual 175, 3) := by decide +kernel
theorem dX6_tellsSlot_83 : decode cX6_tellsSlot 83 = .ok (.ireturn, 1) := by decide +kernel
theorem dX6_tellsSlot_84 : decode cX6_tellsSlot 84 = .ok (.aload_n 0, 1) := by decide +kernel
theorem dX6_tellsSlot_85 : decode cX6_tellsSlot 85 = .ok (.iload_n 1, 1) := by decide +kernel
theorem dX6_tellsSlot_86 : decode cX6_tellsSlot 86 = .ok (.iload_n 2, 1) := by decide +kernel
theorem dX6_tellsSlot_87 : decode cX6_tellsSlot 87 = .ok (.invokevirtual 62, 3) := by decide +kernel
theorem dX6_tellsSlot_90 : decode cX6_tellsSlot 90 = .ok (.ireturn, 1) := by decide +kernel
theorem dX6_slotOf_0 : decode cX6_slotOf 0 = .ok (.aload_n 0, 1) := by decide +kernel
theorem dX6_slotOf_1 : decode cX6_slotOf 1 = .ok (.iconst 0, 1) := by decide +kernel
theorem dX6_slotOf_2 : decode cX6_slotOf 2 = .ok (.putfield 47, 3) := by decide +kernel
theorem dX6_slotOf_5 : decode cX6_slotOf 5 = .ok (.iload_n 1, 1) := by decide +kernel
theorem dX6_slotOf_6 : decode cX6_slotOf 6 = .ok (.invokestatic 115, 3) := by decide +kernel
theorem dX6_slotOf_9 : decode cX6_slotOf 9 = .ok (.ifCond .ne 9, 3) := by decide +kernel
theorem dX6_slotOf_12 : decode cX6_slotOf 12 = .ok (.aload_n 0, 1) := by decide +kernel
theorem dX6_slotOf_13 : decode cX6_slotOf 13 = .ok (.iconst 1, 1) := by decide +kernel
theorem dX6_slotOf_14 : decode cX6_slotOf 14 = .ok (.invokevirtual 119, 3) := by decide +kernel
theorem dX6_slotOf_17 : decode cX6_slotOf 17 = .ok (.ireturn, 1) := by decide +kernel
theorem dX6_slotOf_18 : decode cX6_slotOf 18 = .ok (.aload_n 0, 1) := by decide +kernel
theorem dX6_slotOf_19 : decode cX6_slotOf 19 = .ok (.invokevirtual 163, 3) := by decide +kernel
theorem dX6_slotOf_22 : decode cX6_slotOf 22 = .ok (.iload_n 2, 1) := by decide +kernel
theorem dX6_slotOf_23 : decode cX6_slotOf 23 = .ok (.iconst 0, 1) := by decide +kernel
theorem dX6_slotOf_24 : decode cX6_slotOf 24 = .ok (.bipush 9, 2) := by decide +kernel
theorem dX6_slotOf_26 : decode cX6_slotOf 26 = .ok (.invokestatic 55, 3) := by decide +kernel
theorem dX6_slotOf_29 : decode cX6_slotOf 29 = .ok (.ifCond .eq 12, 3) := by decide +kernel
theorem dX6_slotOf_32 : decode cX6_slotOf 32 = .ok (.aload_n 0, 1) := by decide +kernel
theorem dX6_slotOf_33 : decode cX6_slotOf 33 = .ok (.iload_n 1, 1) := by decide +kernel
theorem dX6_slotOf_34 : decode cX6_slotOf 34 = .ok (.iload_n 2, 1) := by decide +kernel
theorem dX6_slotOf_35 : decode cX6_slotOf 35 = .ok (.invokevirtual 178, 3) := by decide +kernel
theorem dX6_slotOf_38 : decode cX6_slotOf 38 = .ok (.goto 8, 3) := by decide +kernel
theorem dX6_slotOf_41 : decode cX6_slotOf 41 = .ok (.aload_n 0, 1) := by decide +kernel
theorem dX6_slotOf_42 : decode cX6_slotOf 42 = .ok (.iconst 2, 1) := by decide +kernel
theorem dX6_slotOf_43 : decode cX6_slotOf 43 = .ok (.invokevirtual 119, 3) := by decide +kernel
theorem dX6_slotOf_46 : decode cX6_slotOf 46 = .ok (.ireturn, 1) := by decide +kernel
theorem dX6_tellsSegment_0 : decode cX6_tellsSegment 0 = .ok (.bipush 8, 2) := by decide +kernel
theorem dX6_tellsSegment_2 : decode cX6_tellsSegment 2 = .ok (.iload_n 1, 1) := by decide +kernel
theorem dX6_tellsSegment_3 : decode cX6_tellsSegment 3 = .ok (.imul, 1) := by decide +kernel
theorem dX6_tellsSegment_4 : decode cX6_tellsSegment 4 = .ok (.iload_n 2, 1) := by decide +kernel
theorem dX6_tellsSegment_5 : decode cX6_tellsSegment 5 = .ok (.iadd, 1) := by decide +kernel
theorem dX6_tellsSegment_6 : decode cX6_tellsSegment 6 = .ok (.istore 4, 2) := by decide +kernel
theorem dX6_tellsSegment_8 : decode cX6_tellsSegment 8 = .ok (.iload_n 3, 1) := by decide +kernel
theorem dX6_tellsSegment_9 : decode cX6_tellsSegment 9 = .ok (.ifCond .ne 16, 3) := by decide +kernel
theorem dX6_tellsSegment_12 : decode cX6_tellsSegment 12 = .ok (.aload_n 0, 1) := by decide +kernel
theorem dX6_tellsSegment_13 : decode cX6_tellsSegment 13 = .ok (.getfield 7, 3) := by decide +kernel
theorem dX6_tellsSegment_16 : decode cX6_tellsSegment 16 = .ok (.bipush 32, 2) := by decide +kernel
theorem dX6_tellsSegment_18 : decode cX6_tellsSegment 18 = .ok (.iload 4, 2) := by decide +kernel
theorem dX6_tellsSegment_20 : decode cX6_tellsSegment 20 = .ok (.iadd, 1) := by decide +kernel
theorem dX6_tellsSegment_21 : decode cX6_tellsSegment 21 = .ok (.iaload, 1) := by decide +kernel
theorem dX6_tellsSegment_22 : decode cX6_tellsSegment 22 = .ok (.goto 39, 3) := by decide +kernel
theorem dX6_tellsSegment_25 : decode cX6_tellsSegment 25 = .ok (.iload_n 3, 1) := by decide +kernel
theorem dX6_tellsSegment_26 : decode cX6_tellsSegment 26 = .ok (.iconst 1, 1) := by decide +kernel
theorem dX6_tellsSegment_27 : decode cX6_tellsSegment 27 = .ok (.if_icmp .ne 12, 3) := by decide +kernel
theorem dX6_tellsSegment_30 : decode cX6_tellsSegment 30 = .ok (.aload_n 0, 1) := by decide +kernel
theorem dX6_tellsSegment_31 : decode cX6_tellsSegment 31 = .ok (.iload_n 1, 1) := by decide +kernel
theorem dX6_tellsSegment_32 : decode cX6_tellsSegment 32 = .ok (.iload_n 2, 1) := by decide +kernel
theorem dX6_tellsSegment_33 : decode cX6_tellsSegment 33 = .ok (.invokevirtual 109, 3) := by decide +kernel
theorem dX6_tellsSegment_36 : decode cX6_tellsSegment 36 = .ok (.goto 25, 3) := by decide +kernel
theorem dX6_tellsSegment_39 : decode cX6_tellsSegment 39 = .ok (.iload_n 3, 1) := by decide +kernel
theorem dX6_tellsSegment_40 : decode cX6_tellsSegment 40 = .ok (.iconst 2, 1) := by decide +kernel
theorem dX6_tellsSegment_41 : decode cX6_tellsSegment 41 = .ok (.if_icmp .ne 13, 3) := by decide +kernel
theorem dX6_tellsSegment_44 : decode cX6_tellsSegment 44 = .ok (.aload_n 0, 1) := by decide +kernel
theorem dX6_tellsSegment_45 : decode cX6_tellsSegment 45 = .ok (.getfield 38, 3) := by decide +kernel
theorem dX6_tellsSegment_48 : decode cX6_tellsSegment 48 = .ok (.iload 4, 2) := by decide +kernel
theorem dX6_tellsSegment_50 : decode cX6_tellsSegment 50 = .ok (.iaload, 1) := by decide +kernel
theorem dX6_tellsSegment_51 : decode cX6_tellsSegment 51 = .ok (.goto 10, 3) := by decide +kernel
theorem dX6_tellsSegment_54 : decode cX6_tellsSegment 54 = .ok (.aload_n 0, 1) := by decide +kernel
theorem dX6_tellsSegment_55 : decode cX6_tellsSegment 55 = .ok (.getfield 41, 3) := by decide +kernel
theorem dX6_tellsSegment_58 : decode cX6_tellsSegment 58 = .ok (.iload 4, 2) := by decide +kernel
theorem dX6_tellsSegment_60 : decode cX6_tellsSegment 60 = .ok (.iaload, 1) := by decide +kernel
theorem dX6_tellsSegment_61 : decode cX6_tellsSegment 61 = .ok (.ireturn, 1) := by decide +kernel
theorem dX6_segmentOf_0 : decode cX6_segmentOf 0 = .ok (.aload_n 0, 1) := by decide +kernel
theorem dX6_segmentOf_1 : decode cX6_segmentOf 1 = .ok (.iconst 0, 1) := by decide +kernel
theorem dX6_segmentOf_2 : decode cX6_segmentOf 2 = .ok (.putfield 47, 3) := by decide +kernel
theorem dX6_segmentOf_5 : decode cX6_segmentOf 5 = .ok (.iload_n 1, 1) := by decide +kernel
theorem dX6_segmentOf_6 : decode cX6_segmentOf 6 = .ok (.invokestatic 115, 3) := by decide +kernel
theorem dX6_segmentOf_9 : decode cX6_segmentOf 9 = .ok (.ifCond .eq 10, 3) := by decide +kernel
theorem dX6_segmentOf_12 : decode cX6_segmentOf 12 = .ok (.iload_n 2, 1) := by decide +kernel
theorem dX6_segmentOf_13 : decode cX6_segmentOf 13 = .ok (.invokestatic 125, 3) := by decide +kernel
theorem dX6_segmentOf_16 : decode cX6_segmentOf 16 = .ok (.ifCond .ne 9, 3) := by decide +kernel
theorem dX6_segmentOf_19 : decode cX6_segmentOf 19 = .ok (.aload_n 0, 1) := by decide +kernel
theorem dX6_segmentOf_20 : decode cX6_segmentOf 20 = .ok (.iconst 1, 1) := by decide +kernel
theorem dX6_segmentOf_21 : decode cX6_segmentOf 21 = .ok (.invokevirtual 119, 3) := by decide +kernel
theorem dX6_segmentOf_24 : decode cX6_segmentOf 24 = .ok (.ireturn, 1) := by decide +kernel
theorem dX6_segmentOf_25 : decode cX6_segmentOf 25 = .ok (.aload_n 0, 1) := by decide +kernel
theorem dX6_segmentOf_26 : decode cX6_segmentOf 26 = .ok (.invokevirtual 163, 3) := by decide +kernel
theorem dX6_segmentOf_29 : decode cX6_segmentOf 29 = .ok (.iload_n 3, 1) := by decide +kernel
theorem dX6_segmentOf_30 : decode cX6_segmentOf 30 = .ok (.iconst 0, 1) := by decide +kernel
theorem dX6_segmentOf_31 : decode cX6_segmentOf 31 = .ok (.iconst 3, 1) := by decide +kernel
theorem dX6_segmentOf_32 : decode cX6_segmentOf 32 = .ok (.invokestatic 55, 3) := by decide +kernel
theorem dX6_segmentOf_35 : decode cX6_segmentOf 35 = .ok (.ifCond .eq 13, 3) := by decide +kernel
theorem dX6_segmentOf_38 : decode cX6_segmentOf 38 = .ok (.aload_n 0, 1) := by decide +kernel
theorem dX6_segmentOf_39 : decode cX6_segmentOf 39 = .ok (.iload_n 1, 1) := by decide +kernel
theorem dX6_segmentOf_40 : decode cX6_segmentOf 40 = .ok (.iload_n 2, 1) := by decide +kernel
theorem dX6_segmentOf_41 : decode cX6_segmentOf 41 = .ok (.iload_n 3, 1) := by decide +kernel
theorem dX6_segmentOf_42 : decode cX6_segmentOf 42 = .ok (.invokevirtual 181, 3) := by decide +kernel
theorem dX6_segmentOf_45 : decode cX6_segmentOf 45 = .ok (.goto 8, 3) := by decide +kernel
theorem dX6_segmentOf_48 : decode cX6_segmentOf 48 = .ok (.aload_n 0, 1) := by decide +kernel
theorem dX6_segmentOf_49 : decode cX6_segmentOf 49 = .ok (.iconst 2, 1) := by decide +kernel
theorem dX6_segmentOf_50 : decode cX6_segmentOf 50 = .ok (.invokevirtual 119, 3) := by decide +kernel
theorem dX6_segmentOf_53 : decode cX6_segmentOf 53 = .ok (.ireturn, 1) := by decide +kernel
theorem dX6_nextLit_0 : decode cX6_nextLit 0 = .ok (.aload_n 0, 1) := by decide +kernel
theorem dX6_nextLit_1 : decode cX6_nextLit 1 = .ok (.invokevirtual 98, 3) := by decide +kernel
theorem dX6_nextLit_4 : decode cX6_nextLit 4 = .ok (.ifCond .ne 5, 3) := by decide +kernel
theorem dX6_nextLit_7 : decode cX6_nextLit 7 = .ok (.iconst (-1), 1) := by decide +kernel
theorem dX6_nextLit_8 : decode cX6_nextLit 8 = .ok (.ireturn, 1) := by decide +kernel
theorem dX6_nextLit_9 : decode cX6_nextLit 9 = .ok (.aload_n 0, 1) := by decide +kernel
theorem dX6_nextLit_10 : decode cX6_nextLit 10 = .ok (.aload_n 0, 1) := by decide +kernel
theorem dX6_nextLit_11 : decode cX6_nextLit 11 = .ok (.getfield 7, 3) := by decide +kernel
theorem dX6_nextLit_14 : decode cX6_nextLit 14 = .ok (.bipush 6, 2) := by decide +kernel
theorem dX6_nextLit_16 : decode cX6_nextLit 16 = .ok (.iaload, 1) := by decide +kernel
theorem dX6_nextLit_17 : decode cX6_nextLit 17 = .ok (.invokevirtual 88, 3) := by decide +kernel
theorem dX6_nextLit_20 : decode cX6_nextLit 20 = .ok (.istore_n 1, 1) := by decide +kernel
theorem dX6_nextLit_21 : decode cX6_nextLit 21 = .ok (.iload_n 1, 1) := by decide +kernel
theorem dX6_nextLit_22 : decode cX6_nextLit 22 = .ok (.bipush 100, 2) := by decide +kernel
theorem dX6_nextLit_24 : decode cX6_nextLit 24 = .ok (.irem, 1) := by decide +kernel
theorem dX6_nextLit_25 : decode cX6_nextLit 25 = .ok (.aload_n 0, 1) := by decide +kernel
theorem dX6_nextLit_26 : decode cX6_nextLit 26 = .ok (.getfield 7, 3) := by decide +kernel
theorem dX6_nextLit_29 : decode cX6_nextLit 29 = .ok (.iconst 0, 1) := by decide +kernel
theorem dX6_nextLit_30 : decode cX6_nextLit 30 = .ok (.iaload, 1) := by decide +kernel
theorem dX6_nextLit_31 : decode cX6_nextLit 31 = .ok (.if_icmp .lt 10, 3) := by decide +kernel
theorem dX6_nextLit_34 : decode cX6_nextLit 34 = .ok (.iload_n 1, 1) := by decide +kernel
theorem dX6_nextLit_35 : decode cX6_nextLit 35 = .ok (.bipush 100, 2) := by decide +kernel
theorem dX6_nextLit_37 : decode cX6_nextLit 37 = .ok (.idiv, 1) := by decide +kernel
theorem dX6_nextLit_38 : decode cX6_nextLit 38 = .ok (.goto 4, 3) := by decide +kernel
theorem dX6_nextLit_41 : decode cX6_nextLit 41 = .ok (.iconst (-1), 1) := by decide +kernel
theorem dX6_nextLit_42 : decode cX6_nextLit 42 = .ok (.ireturn, 1) := by decide +kernel
theorem dX6_allLight_0 : decode cX6_allLight 0 = .ok (.iconst 0, 1) := by decide +kernel
theorem dX6_allLight_1 : decode cX6_allLight 1 = .ok (.istore_n 1, 1) := by decide +kernel
theorem dX6_allLight_2 : decode cX6_allLight 2 = .ok (.iconst 0, 1) := by decide +kernel
theorem dX6_allLight_3 : decode cX6_allLight 3 = .ok (.istore_n 2, 1) := by decide +kernel
theorem dX6_allLight_4 : decode cX6_allLight 4 = .ok (.iload_n 2, 1) := by decide +kernel
theorem dX6_allLight_5 : decode cX6_allLight 5 = .ok (.bipush 6, 2) := by decide +kernel
theorem dX6_allLight_7 : decode cX6_allLight 7 = .ok (.if_icmp .ge 33, 3) := by decide +kernel
theorem dX6_allLight_10 : decode cX6_allLight 10 = .ok (.iload_n 1, 1) := by decide +kernel
theorem dX6_allLight_11 : decode cX6_allLight 11 = .ok (.aload_n 0, 1) := by decide +kernel
theorem dX6_allLight_12 : decode cX6_allLight 12 = .ok (.iload_n 2, 1) := by decide +kernel
theorem dX6_allLight_13 : decode cX6_allLight 13 = .ok (.iconst 2, 1) := by decide +kernel
theorem dX6_allLight_14 : decode cX6_allLight 14 = .ok (.invokevirtual 62, 3) := by decide +kernel
theorem dX6_allLight_17 : decode cX6_allLight 17 = .ok (.aload_n 0, 1) := by decide +kernel
theorem dX6_allLight_18 : decode cX6_allLight 18 = .ok (.iload_n 2, 1) := by decide +kernel
theorem dX6_allLight_19 : decode cX6_allLight 19 = .ok (.invokevirtual 82, 3) := by decide +kernel
theorem dX6_allLight_22 : decode cX6_allLight 22 = .ok (.imul, 1) := by decide +kernel
theorem dX6_allLight_23 : decode cX6_allLight 23 = .ok (.aload_n 0, 1) := by decide +kernel
theorem dX6_allLight_24 : decode cX6_allLight 24 = .ok (.iload_n 2, 1) := by decide +kernel
theorem dX6_allLight_25 : decode cX6_allLight 25 = .ok (.invokevirtual 73, 3) := by decide +kernel
theorem dX6_allLight_28 : decode cX6_allLight 28 = .ok (.invokestatic 76, 3) := by decide +kernel
theorem dX6_allLight_31 : decode cX6_allLight 31 = .ok (.imul, 1) := by decide +kernel
theorem dX6_allLight_32 : decode cX6_allLight 32 = .ok (.iadd, 1) := by decide +kernel
theorem dX6_allLight_33 : decode cX6_allLight 33 = .ok (.istore_n 1, 1) := by decide +kernel
theorem dX6_allLight_34 : decode cX6_allLight 34 = .ok (.iinc 2 1, 3) := by decide +kernel
theorem dX6_allLight_37 : decode cX6_allLight 37 = .ok (.goto (-33), 3) := by decide +kernel
theorem dX6_allLight_40 : decode cX6_allLight 40 = .ok (.iload_n 1, 1) := by decide +kernel
theorem dX6_allLight_41 : decode cX6_allLight 41 = .ok (.ireturn, 1) := by decide +kernel
theorem dX6_readWell_0 : decode cX6_readWell 0 = .ok (.iconst 0, 1) := by decide +kernel
theorem dX6_readWell_1 : decode cX6_readWell 1 = .ok (.istore_n 1, 1) := by decide +kernel
theorem dX6_readWell_2 : decode cX6_readWell 2 = .ok (.iconst 0, 1) := by decide +kernel
theorem dX6_readWell_3 : decode cX6_readWell 3 = .ok (.istore_n 2, 1) := by decide +kernel
theorem dX6_readWell_4 : decode cX6_readWell 4 = .ok (.iload_n 2, 1) := by decide +kernel
theorem dX6_readWell_5 : decode cX6_readWell 5 = .ok (.bipush 6, 2) := by decide +kernel
theorem dX6_readWell_7 : decode cX6_readWell 7 = .ok (.if_icmp .ge 31, 3) := by decide +kernel
theorem dX6_readWell_10 : decode cX6_readWell 10 = .ok (.iload_n 1, 1) := by decide +kernel
theorem dX6_readWell_11 : decode cX6_readWell 11 = .ok (.aload_n 0, 1) := by decide +kernel
theorem dX6_readWell_12 : decode cX6_readWell 12 = .ok (.iload_n 2, 1) := by decide +kernel
theorem dX6_readWell_13 : decode cX6_readWell 13 = .ok (.invokevirtual 166, 3) := by decide +kernel
theorem dX6_readWell_16 : decode cX6_readWell 16 = .ok (.aload_n 0, 1) := by decide +kernel
theorem dX6_readWell_17 : decode cX6_readWell 17 = .ok (.iload_n 2, 1) := by decide +kernel
theorem dX6_readWell_18 : decode cX6_readWell 18 = .ok (.iconst 0, 1) := by decide +kernel
theorem dX6_readWell_19 : decode cX6_readWell 19 = .ok (.invokevirtual 62, 3) := by decide +kernel
theorem dX6_readWell_22 : decode cX6_readWell 22 = .ok (.if_icmp .ne 7, 3) := by decide +kernel
theorem dX6_readWell_25 : decode cX6_readWell 25 = .ok (.iconst 1, 1) := by decide +kernel
theorem dX6_readWell_26 : decode cX6_readWell 26 = .ok (.goto 4, 3) := by decide +kernel
theorem dX6_readWell_29 : decode cX6_readWell 29 = .ok (.iconst 0, 1) := by decide +kernel
theorem dX6_readWell_30 : decode cX6_readWell 30 = .ok (.iadd, 1) := by decide +kernel
theorem dX6_readWell_31 : decode cX6_readWell 31 = .ok (.istore_n 1, 1) := by decide +kernel
theorem dX6_readWell_32 : decode cX6_readWell 32 = .ok (.iinc 2 1, 3) := by decide +kernel
theorem dX6_readWell_35 : decode cX6_readWell 35 = .ok (.goto (-31), 3) := by decide +kernel
theorem dX6_readWell_38 : decode cX6_readWell 38 = .ok (.iload_n 1, 1) := by decide +kernel
theorem dX6_readWell_39 : decode cX6_readWell 39 = .ok (.ireturn, 1) := by decide +kernel
theorem dX6_apart_0 : decode cX6_apart 0 = .ok (.iconst (-1), 1) := by decide +kernel
theorem dX6_apart_1 : decode cX6_apart 1 = .ok (.istore_n 1, 1) := by decide +kernel
theorem dX6_apart_2 : decode cX6_apart 2 = .ok (.iconst (-1), 1) := by decide +kernel
theorem dX6_apart_3 : decode cX6_apart 3 = .ok (.istore_n 2, 1) := by decide +kernel
theorem dX6_apart_4 : decode cX6_apart 4 = .ok (.iconst 0, 1) := by decide +kernel
theorem dX6_apart_5 : decode cX6_apart 5 = .ok (.istore_n 3, 1) := by decide +kernel
theorem dX6_apart_6 : decode cX6_apart 6 = .ok (.iload_n 3, 1) := by decide +kernel
theorem dX6_apart_7 : decode cX6_apart 7 = .ok (.bipush 6, 2) := by decide +kernel
theorem dX6_apart_9 : decode cX6_apart 9 = .ok (.if_icmp .ge 60, 3) := by decide +kernel
theorem dX6_apart_12 : decode cX6_apart 12 = .ok (.aload_n 0, 1) := by decide +kernel
theorem dX6_apart_13 : decode cX6_apart 13 = .ok (.iload_n 3, 1) := by decide +kernel
theorem dX6_apart_14 : decode cX6_apart 14 = .ok (.invokevirtual 73, 3) := by decide +kernel
theorem dX6_apart_17 : decode cX6_apart 17 = .ok (.ifCond .eq 46, 3) := by decide +kernel
theorem dX6_apart_20 : decode cX6_apart 20 = .ok (.aload_n 0, 1) := by decide +kernel
theorem dX6_apart_21 : decode cX6_apart 21 = .ok (.iload_n 3, 1) := by decide +kernel
theorem dX6_apart_22 : decode cX6_apart 22 = .ok (.invokevirtual 175, 3) := by decide +kernel
theorem dX6_apart_25 : decode cX6_apart 25 = .ok (.istore 4, 2) := by decide +kernel
theorem dX6_apart_27 : decode cX6_apart 27 = .ok (.iload_n 1, 1) := by decide +kernel
theorem dX6_apart_28 : decode cX6_apart 28 = .ok (.iconst (-1), 1) := by decide +kernel
theorem dX6_apart_29 : decode cX6_apart 29 = .ok (.if_icmp .eq 9, 3) := by decide +kernel
theorem dX6_apart_32 : decode cX6_apart 32 = .ok (.iload 4, 2) := by decide +kernel
theorem dX6_apart_34 : decode cX6_apart 34 = .ok (.iload_n 1, 1) := by decide +kernel
theorem dX6_apart_35 : decode cX6_apart 35 = .ok (.if_icmp .le 8, 3) := by decide +kernel
theorem dX6_apart_38 : decode cX6_apart 38 = .ok (.iload 4, 2) := by decide +kernel
theorem dX6_apart_40 : decode cX6_apart 40 = .ok (.goto 4, 3) := by decide +kernel
theorem dX6_apart_43 : decode cX6_apart 43 = .ok (.iload_n 1, 1) := by decide +kernel
theorem dX6_apart_44 : decode cX6_apart 44 = .ok (.istore_n 1, 1) := by decide +kernel
theorem dX6_apart_45 : decode cX6_apart 45 = .ok (.iload_n 2, 1) := by decide +kernel
theorem dX6_apart_46 : decode cX6_apart 46 = .ok (.iconst (-1), 1) := by decide +kernel
theorem dX6_apart_47 : decode cX6_apart 47 = .ok (.if_icmp .eq 9, 3) := by decide +kernel
theorem dX6_apart_50 : decode cX6_apart 50 = .ok (.iload 4, 2) := by decide +kernel
theorem dX6_apart_52 : decode cX6_apart 52 = .ok (.iload_n 2, 1) := by decide +kernel
theorem dX6_apart_53 : decode cX6_apart 53 = .ok (.if_icmp .ge 8, 3) := by decide +kernel
theorem dX6_apart_56 : decode cX6_apart 56 = .ok (.iload 4, 2) := by decide +kernel
theorem dX6_apart_58 : decode cX6_apart 58 = .ok (.goto 4, 3) := by decide +kernel
theorem dX6_apart_61 : decode cX6_apart 61 = .ok (.iload_n 2, 1) := by decide +kernel
theorem dX6_apart_62 : decode cX6_apart 62 = .ok (.istore_n 2, 1) := by decide +kernel
theorem dX6_apart_63 : decode cX6_apart 63 = .ok (.iinc 3 1, 3) := by decide +kernel
theorem dX6_apart_66 : decode cX6_apart 66 = .ok (.goto (-60), 3) := by decide +kernel
theorem dX6_apart_69 : decode cX6_apart 69 = .ok (.iload_n 1, 1) := by decide +kernel
theorem dX6_apart_70 : decode cX6_apart 70 = .ok (.iload_n 2, 1) := by decide +kernel
theorem dX6_apart_71 : decode cX6_apart 71 = .ok (.isub, 1) := by decide +kernel
theorem dX6_apart_72 : decode cX6_apart 72 = .ok (.ireturn, 1) := by decide +kernel
theorem dX6_flicker_0 : decode cX6_flicker 0 = .ok (.iconst 0, 1) := by decide +kernel
theorem dX6_flicker_1 : decode cX6_flicker 1 = .ok (.istore_n 1, 1) := by decide +kernel
theorem dX6_flicker_2 : decode cX6_flicker 2 = .ok (.iconst 0, 1) := by decide +kernel
theorem dX6_flicker_3 : decode cX6_flicker 3 = .ok (.istore_n 2, 1) := by decide +kernel
theorem dX6_flicker_4 : decode cX6_flicker 4 = .ok (.iload_n 2, 1) := by decide +kernel
theorem dX6_flicker_5 : decode cX6_flicker 5 = .ok (.bipush 48, 2) := by decide +kernel
theorem dX6_flicker_7 : decode cX6_flicker 7 = .ok (.if_icmp .ge 73, 3) := by decide +kernel
theorem dX6_flicker_10 : decode cX6_flicker 10 = .ok (.aload_n 0, 1) := by decide +kernel
theorem dX6_flicker_11 : decode cX6_flicker 11 = .ok (.iload_n 2, 1) := by decide +kernel
theorem dX6_flicker_12 : decode cX6_flicker 12 = .ok (.bipush 8, 2) := by decide +kernel
theorem dX6_flicker_14 : decode cX6_flicker 14 = .ok (.idiv, 1) := by decide +kernel
theorem dX6_flicker_15 : decode cX6_flicker 15 = .ok (.invokevirtual 73, 3) := by decide +kernel
theorem dX6_flicker_18 : decode cX6_flicker 18 = .ok (.iload_n 2, 1) := by decide +kernel
theorem dX6_flicker_19 : decode cX6_flicker 19 = .ok (.bipush 8, 2) := by decide +kernel
theorem dX6_flicker_21 : decode cX6_flicker 21 = .ok (.irem, 1) := by decide +kernel
theorem dX6_flicker_22 : decode cX6_flicker 22 = .ok (.ishr, 1) := by decide +kernel
theorem dX6_flicker_23 : decode cX6_flicker 23 = .ok (.iconst 1, 1) := by decide +kernel
theorem dX6_flicker_24 : decode cX6_flicker 24 = .ok (.iand, 1) := by decide +kernel
theorem dX6_flicker_25 : decode cX6_flicker 25 = .ok (.iconst 1, 1) := by decide +kernel
theorem dX6_flicker_26 : decode cX6_flicker 26 = .ok (.if_icmp .ne 7, 3) := by decide +kernel
theorem dX6_flicker_29 : decode cX6_flicker 29 = .ok (.iconst 1, 1) := by decide +kernel
theorem dX6_flicker_30 : decode cX6_flicker 30 = .ok (.goto 4, 3) := by decide +kernel
theorem dX6_flicker_33 : decode cX6_flicker 33 = .ok (.iconst 0, 1) := by decide +kernel
theorem dX6_flicker_34 : decode cX6_flicker 34 = .ok (.istore_n 3, 1) := by decide +kernel
theorem dX6_flicker_35 : decode cX6_flicker 35 = .ok (.iload_n 3, 1) := by decide +kernel
theorem dX6_flicker_36 : decode cX6_flicker 36 = .ok (.ifCond .eq 36, 3) := by decide +kernel
theorem dX6_flicker_39 : decode cX6_flicker 39 = .ok (.aload_n 0, 1) := by decide +kernel
theorem dX6_flicker_40 : decode cX6_flicker 40 = .ok (.getfield 38, 3) := by decide +kernel
theorem dX6_flicker_43 : decode cX6_flicker 43 = .ok (.iload_n 2, 1) := by decide +kernel
theorem dX6_flicker_44 : decode cX6_flicker 44 = .ok (.iaload, 1) := by decide +kernel
theorem dX6_flicker_45 : decode cX6_flicker 45 = .ok (.aload_n 0, 1) := by decide +kernel
theorem dX6_flicker_46 : decode cX6_flicker 46 = .ok (.getfield 41, 3) := by decide +kernel
theorem dX6_flicker_49 : decode cX6_flicker 49 = .ok (.iload_n 2, 1) := by decide +kernel
theorem dX6_flicker_50 : decode cX6_flicker 50 = .ok (.iaload, 1) := by decide +kernel
theorem dX6_flicker_51 : decode cX6_flicker 51 = .ok (.isub, 1) := by decide +kernel
theorem dX6_flicker_52 : decode cX6_flicker 52 = .ok (.iload_n 1, 1) := by decide +kernel
theorem dX6_flicker_53 : decode cX6_flicker 53 = .ok (.if_icmp .le 19, 3) := by decide +kernel
theorem dX6_flicker_56 : decode cX6_flicker 56 = .ok (.aload_n 0, 1) := by decide +kernel
theorem dX6_flicker_57 : decode cX6_flicker 57 = .ok (.getfield 38, 3) := by decide +kernel
theorem dX6_flicker_60 : decode cX6_flicker 60 = .ok (.iload_n 2, 1) := by decide +kernel
theorem dX6_flicker_61 : decode cX6_flicker 61 = .ok (.iaload, 1) := by decide +kernel
theorem dX6_flicker_62 : decode cX6_flicker 62 = .ok (.aload_n 0, 1) := by decide +kernel
theorem dX6_flicker_63 : decode cX6_flicker 63 = .ok (.getfield 41, 3) := by decide +kernel
theorem dX6_flicker_66 : decode cX6_flicker 66 = .ok (.iload_n 2, 1) := by decide +kernel
theorem dX6_flicker_67 : decode cX6_flicker 67 = .ok (.iaload, 1) := by decide +kernel
theorem dX6_flicker_68 : decode cX6_flicker 68 = .ok (.isub, 1) := by decide +kernel
theorem dX6_flicker_69 : decode cX6_flicker 69 = .ok (.goto 4, 3) := by decide +kernel
theorem dX6_flicker_72 : decode cX6_flicker 72 = .ok (.iload_n 1, 1) := by decide +kernel
theorem dX6_flicker_73 : decode cX6_flicker 73 = .ok (.istore_n 1, 1) := by decide +kernel
theorem dX6_flicker_74 : decode cX6_flicker 74 = .ok (.iinc 2 1, 3) := by decide +kernel
theorem dX6_flicker_77 : decode cX6_flicker 77 = .ok (.goto (-73), 3) := by decide +kernel
theorem dX6_flicker_80 : decode cX6_flicker 80 = .ok (.iload_n 1, 1) := by decide +kernel
theorem dX6_flicker_81 : decode cX6_flicker 81 = .ok (.ireturn, 1) := by decide +kernel
theorem dX6_tellsCount_0 : decode cX6_tellsCount 0 = .ok (.iload_n 1, 1) := by decide +kernel
theorem dX6_tellsCount_1 : decode cX6_tellsCount 1 = .ok (.tableswitch 128 0 11 #[63, 70, 75, 83, 88, 96, 96, 101, 108, 113, 118, 123], 63) := by decide +kernel
theorem dX6_tellsCount_64 : decode cX6_tellsCount 64 = .ok (.aload_n 0, 1) := by decide +kernel
theorem dX6_tellsCount_65 : decode cX6_tellsCount 65 = .ok (.getfield 7, 3) := by decide +kernel
theorem dX6_tellsCount_68 : decode cX6_tellsCount 68 = .ok (.iconst 5, 1) := by decide +kernel
theorem dX6_tellsCount_69 : decode cX6_tellsCount 69 = .ok (.iaload, 1) := by decide +kernel
theorem dX6_tellsCount_70 : decode cX6_tellsCount 70 = .ok (.ireturn, 1) := by decide +kernel
theorem dX6_tellsCount_71 : decode cX6_tellsCount 71 = .ok (.aload_n 0, 1) := by decide +kernel
theorem dX6_tellsCount_72 : decode cX6_tellsCount 72 = .ok (.invokevirtual 98, 3) := by decide +kernel
theorem dX6_tellsCount_75 : decode cX6_tellsCount 75 = .ok (.ireturn, 1) := by decide +kernel
theorem dX6_tellsCount_76 : decode cX6_tellsCount 76 = .ok (.aload_n 0, 1) := by decide +kernel
theorem dX6_tellsCount_77 : decode cX6_tellsCount 77 = .ok (.getfield 7, 3) := by decide +kernel
theorem dX6_tellsCount_80 : decode cX6_tellsCount 80 = .ok (.bipush 6, 2) := by decide +kernel
theorem dX6_tellsCount_82 : decode cX6_tellsCount 82 = .ok (.iaload, 1) := by decide +kernel
theorem dX6_tellsCount_83 : decode cX6_tellsCount 83 = .ok (.ireturn, 1) := by decide +kernel
theorem dX6_tellsCount_84 : decode cX6_tellsCount 84 = .ok (.aload_n 0, 1) := by decide +kernel
theorem dX6_tellsCount_85 : decode cX6_tellsCount 85 = .ok (.invokevirtual 185, 3) := by decide +kernel
theorem dX6_tellsCount_88 : decode cX6_tellsCount 88 = .ok (.ireturn, 1) := by decide +kernel
theorem dX6_tellsCount_89 : decode cX6_tellsCount 89 = .ok (.aload_n 0, 1) := by decide +kernel
theorem dX6_tellsCount_90 : decode cX6_tellsCount 90 = .ok (.getfield 7, 3) := by decide +kernel
theorem dX6_tellsCount_93 : decode cX6_tellsCount 93 = .ok (.bipush 7, 2) := by decide +kernel
theorem dX6_tellsCount_95 : decode cX6_tellsCount 95 = .ok (.iaload, 1) := by decide +kernel
theorem dX6_tellsCount_96 : decode cX6_tellsCount 96 = .ok (.ireturn, 1) := by decide +kernel
theorem dX6_tellsCount_97 : decode cX6_tellsCount 97 = .ok (.aload_n 0, 1) := by decide +kernel
theorem dX6_tellsCount_98 : decode cX6_tellsCount 98 = .ok (.invokevirtual 188, 3) := by decide +kernel
theorem dX6_tellsCount_101 : decode cX6_tellsCount 101 = .ok (.ireturn, 1) := by decide +kernel
theorem dX6_tellsCount_102 : decode cX6_tellsCount 102 = .ok (.aload_n 0, 1) := by decide +kernel
theorem dX6_tellsCount_103 : decode cX6_tellsCount 103 = .ok (.getfield 7, 3) := by decide +kernel
theorem dX6_tellsCount_106 : decode cX6_tellsCount 106 = .ok (.iconst 4, 1) := by decide +kernel
theorem dX6_tellsCount_107 : decode cX6_tellsCount 107 = .ok (.iaload, 1) := by decide +kernel
theorem dX6_tellsCount_108 : decode cX6_tellsCount 108 = .ok (.ireturn, 1) := by decide +kernel
theorem dX6_tellsCount_109 : decode cX6_tellsCount 109 = .ok (.aload_n 0, 1) := by decide +kernel
theorem dX6_tellsCount_110 : decode cX6_tellsCount 110 = .ok (.invokevirtual 131, 3) := by decide +kernel
theorem dX6_tellsCount_113 : decode cX6_tellsCount 113 = .ok (.ireturn, 1) := by decide +kernel
theorem dX6_tellsCount_114 : decode cX6_tellsCount 114 = .ok (.aload_n 0, 1) := by decide +kernel
theorem dX6_tellsCount_115 : decode cX6_tellsCount 115 = .ok (.invokevirtual 191, 3) := by decide +kernel
theorem dX6_tellsCount_118 : decode cX6_tellsCount 118 = .ok (.ireturn, 1) := by decide +kernel
theorem dX6_tellsCount_119 : decode cX6_tellsCount 119 = .ok (.aload_n 0, 1) := by decide +kernel
theorem dX6_tellsCount_120 : decode cX6_tellsCount 120 = .ok (.invokevirtual 194, 3) := by decide +kernel
theorem dX6_tellsCount_123 : decode cX6_tellsCount 123 = .ok (.ireturn, 1) := by decide +kernel
theorem dX6_tellsCount_124 : decode cX6_tellsCount 124 = .ok (.aload_n 0, 1) := by decide +kernel
theorem dX6_tellsCount_125 : decode cX6_tellsCount 125 = .ok (.invokevirtual 197, 3) := by decide +kernel
theorem dX6_tellsCount_128 : decode cX6_tellsCount 128 = .ok (.ireturn, 1) := by decide +kernel
theorem dX6_tellsCount_129 : decode cX6_tellsCount 129 = .ok (.aload_n 0, 1) := by decide +kernel
theorem dX6_tellsCount_130 : decode cX6_tellsCount 130 = .ok (.getfield 59, 3) := by decide +kernel
theorem dX6_tellsCount_133 : decode cX6_tellsCount 133 = .ok (.ireturn, 1) := by decide +kernel
theorem dX6_count_0 : decode cX6_count 0 = .ok (.aload_n 0, 1) := by decide +kernel
theorem dX6_count_1 : decode cX6_count 1 = .ok (.iconst 0, 1) := by decide +kernel
theorem dX6_count_2 : decode cX6_count 2 = .ok (.putfield 47, 3) := by decide +kernel
theorem dX6_count_5 : decode cX6_count 5 = .ok (.aload_n 0, 1) := by decide +kernel
theorem dX6_count_6 : decode cX6_count 6 = .ok (.invokevirtual 163, 3) := by decide +kernel
theorem dX6_count_9 : decode cX6_count 9 = .ok (.iload_n 1, 1) := by decide +kernel
theorem dX6_count_10 : decode cX6_count 10 = .ok (.iconst 0, 1) := by decide +kernel
theorem dX6_count_11 : decode cX6_count 11 = .ok (.bipush 12, 2) := by decide +kernel
theorem dX6_count_13 : decode cX6_count 13 = .ok (.invokestatic 55, 3) := by decide +kernel
theorem dX6_count_16 : decode cX6_count 16 = .ok (.ifCond .eq 11, 3) := by decide +kernel
theorem dX6_count_19 : decode cX6_count 19 = .ok (.aload_n 0, 1) := by decide +kernel
theorem dX6_count_20 : decode cX6_count 20 = .ok (.iload_n 1, 1) := by decide +kernel
theorem dX6_count_21 : decode cX6_count 21 = .ok (.invokevirtual 200, 3) := by decide +kernel
theorem dX6_count_24 : decode cX6_count 24 = .ok (.goto 8, 3) := by decide +kernel
theorem dX6_count_27 : decode cX6_count 27 = .ok (.aload_n 0, 1) := by decide +kernel
theorem dX6_count_28 : decode cX6_count 28 = .ok (.iconst 1, 1) := by decide +kernel
theorem dX6_count_29 : decode cX6_count 29 = .ok (.invokevirtual 119, 3) := by decide +kernel
theorem dX6_count_32 : decode cX6_count 32 = .ok (.ireturn, 1) := by decide +kernel
theorem dX6_setting_0 : decode cX6_setting 0 = .ok (.aload_n 0, 1) := by decide +kernel
theorem dX6_setting_1 : decode cX6_setting 1 = .ok (.iconst 0, 1) := by decide +kernel
theorem dX6_setting_2 : decode cX6_setting 2 = .ok (.putfield 47, 3) := by decide +kernel
theorem dX6_setting_5 : decode cX6_setting 5 = .ok (.iload_n 1, 1) := by decide +kernel
theorem dX6_setting_6 : decode cX6_setting 6 = .ok (.iconst 0, 1) := by decide +kernel
theorem dX6_setting_7 : decode cX6_setting 7 = .ok (.iconst 3, 1) := by decide +kernel
theorem dX6_setting_8 : decode cX6_setting 8 = .ok (.invokestatic 55, 3) := by decide +kernel
theorem dX6_setting_11 : decode cX6_setting 11 = .ok (.ifCond .eq 12, 3) := by decide +kernel
theorem dX6_setting_14 : decode cX6_setting 14 = .ok (.aload_n 0, 1) := by decide +kernel
theorem dX6_setting_15 : decode cX6_setting 15 = .ok (.getfield 7, 3) := by decide +kernel
theorem dX6_setting_18 : decode cX6_setting 18 = .ok (.iload_n 1, 1) := by decide +kernel
theorem dX6_setting_19 : decode cX6_setting 19 = .ok (.iaload, 1) := by decide +kernel
theorem dX6_setting_20 : decode cX6_setting 20 = .ok (.goto 8, 3) := by decide +kernel
theorem dX6_setting_23 : decode cX6_setting 23 = .ok (.aload_n 0, 1) := by decide +kernel
theorem dX6_setting_24 : decode cX6_setting 24 = .ok (.iconst 1, 1) := by decide +kernel
theorem dX6_setting_25 : decode cX6_setting 25 = .ok (.invokevirtual 119, 3) := by decide +kernel
theorem dX6_setting_28 : decode cX6_setting 28 = .ok (.ireturn, 1) := by decide +kernel
theorem dX6_could_0 : decode cX6_could 0 = .ok (.aload_n 0, 1) := by decide +kernel
theorem dX6_could_1 : decode cX6_could 1 = .ok (.iload_n 1, 1) := by decide +kernel
theorem dX6_could_2 : decode cX6_could 2 = .ok (.aload_n 0, 1) := by decide +kernel
theorem dX6_could_3 : decode cX6_could 3 = .ok (.iload_n 1, 1) := by decide +kernel
theorem dX6_could_4 : decode cX6_could 4 = .ok (.iconst 0, 1) := by decide +kernel
theorem dX6_could_5 : decode cX6_could 5 = .ok (.invokevirtual 62, 3) := by decide +kernel
theorem dX6_could_8 : decode cX6_could 8 = .ok (.invokestatic 66, 3) := by decide +kernel
theorem dX6_could_11 : decode cX6_could 11 = .ok (.invokevirtual 70, 3) := by decide +kernel
theorem dX6_could_14 : decode cX6_could 14 = .ok (.istore_n 3, 1) := by decide +kernel
theorem dX6_could_15 : decode cX6_could 15 = .ok (.iconst 0, 1) := by decide +kernel
theorem dX6_could_16 : decode cX6_could 16 = .ok (.istore 4, 2) := by decide +kernel
theorem dX6_could_18 : decode cX6_could 18 = .ok (.iconst (-1), 1) := by decide +kernel
theorem dX6_could_19 : decode cX6_could 19 = .ok (.istore 5, 2) := by decide +kernel
theorem dX6_could_21 : decode cX6_could 21 = .ok (.bipush 17, 2) := by decide +kernel
theorem dX6_could_23 : decode cX6_could 23 = .ok (.istore 6, 2) := by decide +kernel
theorem dX6_could_25 : decode cX6_could 25 = .ok (.iload 6, 2) := by decide +kernel
theorem dX6_could_27 : decode cX6_could 27 = .ok (.ifCond .lt 59, 3) := by decide +kernel
theorem dX6_could_30 : decode cX6_could 30 = .ok (.aload_n 0, 1) := by decide +kernel
theorem dX6_could_31 : decode cX6_could 31 = .ok (.iload_n 1, 1) := by decide +kernel
theorem dX6_could_32 : decode cX6_could 32 = .ok (.iload 6, 2) := by decide +kernel
theorem dX6_could_34 : decode cX6_could 34 = .ok (.invokestatic 66, 3) := by decide +kernel
theorem dX6_could_37 : decode cX6_could 37 = .ok (.invokevirtual 70, 3) := by decide +kernel
theorem dX6_could_40 : decode cX6_could 40 = .ok (.iload_n 3, 1) := by decide +kernel
theorem dX6_could_41 : decode cX6_could 41 = .ok (.if_icmp .ne 7, 3) := by decide +kernel
theorem dX6_could_44 : decode cX6_could 44 = .ok (.iconst 1, 1) := by decide +kernel
theorem dX6_could_45 : decode cX6_could 45 = .ok (.goto 4, 3) := by decide +kernel
theorem dX6_could_48 : decode cX6_could 48 = .ok (.iconst 0, 1) := by decide +kernel
theorem dX6_could_49 : decode cX6_could 49 = .ok (.istore 7, 2) := by decide +kernel
theorem dX6_could_51 : decode cX6_could 51 = .ok (.iload 4, 2) := by decide +kernel
theorem dX6_could_53 : decode cX6_could 53 = .ok (.iload 7, 2) := by decide +kernel
theorem dX6_could_55 : decode cX6_could 55 = .ok (.ifCond .eq 7, 3) := by decide +kernel
theorem dX6_could_58 : decode cX6_could 58 = .ok (.iconst 1, 1) := by decide +kernel
theorem dX6_could_59 : decode cX6_could 59 = .ok (.goto 4, 3) := by decide +kernel
theorem dX6_could_62 : decode cX6_could 62 = .ok (.iconst 0, 1) := by decide +kernel
theorem dX6_could_63 : decode cX6_could 63 = .ok (.iadd, 1) := by decide +kernel
theorem dX6_could_64 : decode cX6_could 64 = .ok (.istore 4, 2) := by decide +kernel
theorem dX6_could_66 : decode cX6_could 66 = .ok (.iload 7, 2) := by decide +kernel
theorem dX6_could_68 : decode cX6_could 68 = .ok (.ifCond .eq 8, 3) := by decide +kernel
theorem dX6_could_71 : decode cX6_could 71 = .ok (.iload 6, 2) := by decide +kernel
theorem dX6_could_73 : decode cX6_could 73 = .ok (.goto 5, 3) := by decide +kernel
theorem dX6_could_76 : decode cX6_could 76 = .ok (.iload 5, 2) := by decide +kernel
theorem dX6_could_78 : decode cX6_could 78 = .ok (.istore 5, 2) := by decide +kernel
theorem dX6_could_80 : decode cX6_could 80 = .ok (.iinc 6 (-1), 3) := by decide +kernel
theorem dX6_could_83 : decode cX6_could 83 = .ok (.goto (-58), 3) := by decide +kernel
theorem dX6_could_86 : decode cX6_could 86 = .ok (.iload_n 2, 1) := by decide +kernel
theorem dX6_could_87 : decode cX6_could 87 = .ok (.ifCond .ne 8, 3) := by decide +kernel
theorem dX6_could_90 : decode cX6_could 90 = .ok (.iload 4, 2) := by decide +kernel
theorem dX6_could_92 : decode cX6_could 92 = .ok (.goto 5, 3) := by decide +kernel
theorem dX6_could_95 : decode cX6_could 95 = .ok (.iload 5, 2) := by decide +kernel
theorem dX6_could_97 : decode cX6_could 97 = .ok (.ireturn, 1) := by decide +kernel
theorem dX6_couldBe_0 : decode cX6_couldBe 0 = .ok (.aload_n 0, 1) := by decide +kernel
theorem dX6_couldBe_1 : decode cX6_couldBe 1 = .ok (.iconst 0, 1) := by decide +kernel
theorem dX6_couldBe_2 : decode cX6_couldBe 2 = .ok (.putfield 47, 3) := by decide +kernel
theorem dX6_couldBe_5 : decode cX6_couldBe 5 = .ok (.iload_n 1, 1) := by decide +kernel
theorem dX6_couldBe_6 : decode cX6_couldBe 6 = .ok (.invokestatic 115, 3) := by decide +kernel
theorem dX6_couldBe_9 : decode cX6_couldBe 9 = .ok (.ifCond .ne 9, 3) := by decide +kernel
theorem dX6_couldBe_12 : decode cX6_couldBe 12 = .ok (.aload_n 0, 1) := by decide +kernel
theorem dX6_couldBe_13 : decode cX6_couldBe 13 = .ok (.iconst 1, 1) := by decide +kernel
theorem dX6_couldBe_14 : decode cX6_couldBe 14 = .ok (.invokevirtual 119, 3) := by decide +kernel
theorem dX6_couldBe_17 : decode cX6_couldBe 17 = .ok (.ireturn, 1) := by decide +kernel
theorem dX6_couldBe_18 : decode cX6_couldBe 18 = .ok (.iload_n 2, 1) := by decide +kernel
theorem dX6_couldBe_19 : decode cX6_couldBe 19 = .ok (.iconst 0, 1) := by decide +kernel
theorem dX6_couldBe_20 : decode cX6_couldBe 20 = .ok (.iconst 1, 1) := by decide +kernel
theorem dX6_couldBe_21 : decode cX6_couldBe 21 = .ok (.invokestatic 55, 3) := by decide +kernel
theorem dX6_couldBe_24 : decode cX6_couldBe 24 = .ok (.ifCond .eq 12, 3) := by decide +kernel
theorem dX6_couldBe_27 : decode cX6_couldBe 27 = .ok (.aload_n 0, 1) := by decide +kernel
theorem dX6_couldBe_28 : decode cX6_couldBe 28 = .ok (.iload_n 1, 1) := by decide +kernel
theorem dX6_couldBe_29 : decode cX6_couldBe 29 = .ok (.iload_n 2, 1) := by decide +kernel
theorem dX6_couldBe_30 : decode cX6_couldBe 30 = .ok (.invokevirtual 203, 3) := by decide +kernel
theorem dX6_couldBe_33 : decode cX6_couldBe 33 = .ok (.goto 8, 3) := by decide +kernel
theorem dX6_couldBe_36 : decode cX6_couldBe 36 = .ok (.aload_n 0, 1) := by decide +kernel
theorem dX6_couldBe_37 : decode cX6_couldBe 37 = .ok (.iconst 2, 1) := by decide +kernel
theorem dX6_couldBe_38 : decode cX6_couldBe 38 = .ok (.invokevirtual 119, 3) := by decide +kernel
theorem dX6_couldBe_41 : decode cX6_couldBe 41 = .ok (.ireturn, 1) := by decide +kernel
theorem dX6_timed_0 : decode cX6_timed 0 = .ok (.aload_n 0, 1) := by decide +kernel
theorem dX6_timed_1 : decode cX6_timed 1 = .ok (.iload_n 1, 1) := by decide +kernel
theorem dX6_timed_2 : decode cX6_timed 2 = .ok (.iconst 2, 1) := by decide +kernel
theorem dX6_timed_3 : decode cX6_timed 3 = .ok (.invokevirtual 62, 3) := by decide +kernel
theorem dX6_timed_6 : decode cX6_timed 6 = .ok (.istore_n 3, 1) := by decide +kernel
theorem dX6_timed_7 : decode cX6_timed 7 = .ok (.aload_n 0, 1) := by decide +kernel
theorem dX6_timed_8 : decode cX6_timed 8 = .ok (.iload_n 1, 1) := by decide +kernel
theorem dX6_timed_9 : decode cX6_timed 9 = .ok (.iconst 2, 1) := by decide +kernel
theorem dX6_timed_10 : decode cX6_timed 10 = .ok (.iload_n 2, 1) := by decide +kernel
theorem dX6_timed_11 : decode cX6_timed 11 = .ok (.invokevirtual 51, 3) := by decide +kernel
theorem dX6_timed_14 : decode cX6_timed 14 = .ok (.aload_n 0, 1) := by decide +kernel
theorem dX6_timed_15 : decode cX6_timed 15 = .ok (.invokevirtual 163, 3) := by decide +kernel
theorem dX6_timed_18 : decode cX6_timed 18 = .ok (.aload_n 0, 1) := by decide +kernel
theorem dX6_timed_19 : decode cX6_timed 19 = .ok (.iload_n 1, 1) := by decide +kernel
theorem dX6_timed_20 : decode cX6_timed 20 = .ok (.invokevirtual 175, 3) := by decide +kernel
theorem dX6_timed_23 : decode cX6_timed 23 = .ok (.istore 4, 2) := by decide +kernel
theorem dX6_timed_25 : decode cX6_timed 25 = .ok (.aload_n 0, 1) := by decide +kernel
theorem dX6_timed_26 : decode cX6_timed 26 = .ok (.iload_n 1, 1) := by decide +kernel
theorem dX6_timed_27 : decode cX6_timed 27 = .ok (.iconst 2, 1) := by decide +kernel
theorem dX6_timed_28 : decode cX6_timed 28 = .ok (.iload_n 3, 1) := by decide +kernel
theorem dX6_timed_29 : decode cX6_timed 29 = .ok (.invokevirtual 51, 3) := by decide +kernel
theorem dX6_timed_32 : decode cX6_timed 32 = .ok (.iload 4, 2) := by decide +kernel
theorem dX6_timed_34 : decode cX6_timed 34 = .ok (.ireturn, 1) := by decide +kernel
theorem dX6_ifTimed_0 : decode cX6_ifTimed 0 = .ok (.aload_n 0, 1) := by decide +kernel
theorem dX6_ifTimed_1 : decode cX6_ifTimed 1 = .ok (.iconst 0, 1) := by decide +kernel
theorem dX6_ifTimed_2 : decode cX6_ifTimed 2 = .ok (.putfield 47, 3) := by decide +kernel
theorem dX6_ifTimed_5 : decode cX6_ifTimed 5 = .ok (.iload_n 1, 1) := by decide +kernel
theorem dX6_ifTimed_6 : decode cX6_ifTimed 6 = .ok (.invokestatic 115, 3) := by decide +kernel
theorem dX6_ifTimed_9 : decode cX6_ifTimed 9 = .ok (.ifCond .ne 9, 3) := by decide +kernel
theorem dX6_ifTimed_12 : decode cX6_ifTimed 12 = .ok (.aload_n 0, 1) := by decide +kernel
theorem dX6_ifTimed_13 : decode cX6_ifTimed 13 = .ok (.iconst 1, 1) := by decide +kernel
theorem dX6_ifTimed_14 : decode cX6_ifTimed 14 = .ok (.invokevirtual 119, 3) := by decide +kernel
theorem dX6_ifTimed_17 : decode cX6_ifTimed 17 = .ok (.ireturn, 1) := by decide +kernel
theorem dX6_ifTimed_18 : decode cX6_ifTimed 18 = .ok (.iload_n 2, 1) := by decide +kernel
theorem dX6_ifTimed_19 : decode cX6_ifTimed 19 = .ok (.iconst 0, 1) := by decide +kernel
theorem dX6_ifTimed_20 : decode cX6_ifTimed 20 = .ok (.bipush 20, 2) := by decide +kernel
theorem dX6_ifTimed_22 : decode cX6_ifTimed 22 = .ok (.invokestatic 55, 3) := by decide +kernel
theorem dX6_ifTimed_25 : decode cX6_ifTimed 25 = .ok (.ifCond .eq 12, 3) := by decide +kernel
theorem dX6_ifTimed_28 : decode cX6_ifTimed 28 = .ok (.aload_n 0, 1) := by decide +kernel
theorem dX6_ifTimed_29 : decode cX6_ifTimed 29 = .ok (.iload_n 1, 1) := by decide +kernel
theorem dX6_ifTimed_30 : decode cX6_ifTimed 30 = .ok (.iload_n 2, 1) := by decide +kernel
theorem dX6_ifTimed_31 : decode cX6_ifTimed 31 = .ok (.invokevirtual 206, 3) := by decide +kernel
theorem dX6_ifTimed_34 : decode cX6_ifTimed 34 = .ok (.goto 8, 3) := by decide +kernel
theorem dX6_ifTimed_37 : decode cX6_ifTimed 37 = .ok (.aload_n 0, 1) := by decide +kernel
theorem dX6_ifTimed_38 : decode cX6_ifTimed 38 = .ok (.iconst 2, 1) := by decide +kernel
theorem dX6_ifTimed_39 : decode cX6_ifTimed 39 = .ok (.invokevirtual 119, 3) := by decide +kernel
theorem dX6_ifTimed_42 : decode cX6_ifTimed 42 = .ok (.ireturn, 1) := by decide +kernel
theorem dX6_balanced_0 : decode cX6_balanced 0 = .ok (.aload_n 0, 1) := by decide +kernel
theorem dX6_balanced_1 : decode cX6_balanced 1 = .ok (.invokevirtual 131, 3) := by decide +kernel
theorem dX6_balanced_4 : decode cX6_balanced 4 = .ok (.ifCond .ne 5, 3) := by decide +kernel
theorem dX6_balanced_7 : decode cX6_balanced 7 = .ok (.iconst (-1), 1) := by decide +kernel
theorem dX6_balanced_8 : decode cX6_balanced 8 = .ok (.ireturn, 1) := by decide +kernel
theorem dX6_balanced_9 : decode cX6_balanced 9 = .ok (.aload_n 0, 1) := by decide +kernel
theorem dX6_balanced_10 : decode cX6_balanced 10 = .ok (.iload_n 1, 1) := by decide +kernel
theorem dX6_balanced_11 : decode cX6_balanced 11 = .ok (.invokevirtual 134, 3) := by decide +kernel
theorem dX6_balanced_14 : decode cX6_balanced 14 = .ok (.pop, 1) := by decide +kernel
theorem dX6_balanced_15 : decode cX6_balanced 15 = .ok (.aload_n 0, 1) := by decide +kernel
theorem dX6_balanced_16 : decode cX6_balanced 16 = .ok (.getfield 44, 3) := by decide +kernel
theorem dX6_balanced_19 : decode cX6_balanced 19 = .ok (.iload_n 2, 1) := by decide +kernel
theorem dX6_balanced_20 : decode cX6_balanced 20 = .ok (.iaload, 1) := by decide +kernel
theorem dX6_balanced_21 : decode cX6_balanced 21 = .ok (.ireturn, 1) := by decide +kernel
theorem dX6_ifBalanced_0 : decode cX6_ifBalanced 0 = .ok (.aload_n 0, 1) := by decide +kernel
theorem dX6_ifBalanced_1 : decode cX6_ifBalanced 1 = .ok (.iconst 0, 1) := by decide +kernel
theorem dX6_ifBalanced_2 : decode cX6_ifBalanced 2 = .ok (.putfield 47, 3) := by decide +kernel
theorem dX6_ifBalanced_5 : decode cX6_ifBalanced 5 = .ok (.iload_n 2, 1) := by decide +kernel
theorem dX6_ifBalanced_6 : decode cX6_ifBalanced 6 = .ok (.invokestatic 115, 3) := by decide +kernel
theorem dX6_ifBalanced_9 : decode cX6_ifBalanced 9 = .ok (.ifCond .ne 9, 3) := by decide +kernel
theorem dX6_ifBalanced_12 : decode cX6_ifBalanced 12 = .ok (.aload_n 0, 1) := by decide +kernel
theorem dX6_ifBalanced_13 : decode cX6_ifBalanced 13 = .ok (.iconst 1, 1) := by decide +kernel
theorem dX6_ifBalanced_14 : decode cX6_ifBalanced 14 = .ok (.invokevirtual 119, 3) := by decide +kernel
theorem dX6_ifBalanced_17 : decode cX6_ifBalanced 17 = .ok (.ireturn, 1) := by decide +kernel
theorem dX6_ifBalanced_18 : decode cX6_ifBalanced 18 = .ok (.iload_n 1, 1) := by decide +kernel
theorem dX6_ifBalanced_19 : decode cX6_ifBalanced 19 = .ok (.bipush 6, 2) := by decide +kernel
theorem dX6_ifBalanced_21 : decode cX6_ifBalanced 21 = .ok (.bipush 60, 2) := by decide +kernel
theorem dX6_ifBalanced_23 : decode cX6_ifBalanced 23 = .ok (.invokestatic 55, 3) := by decide +kernel
theorem dX6_ifBalanced_26 : decode cX6_ifBalanced 26 = .ok (.ifCond .eq 12, 3) := by decide +kernel
theorem dX6_ifBalanced_29 : decode cX6_ifBalanced 29 = .ok (.aload_n 0, 1) := by decide +kernel
theorem dX6_ifBalanced_30 : decode cX6_ifBalanced 30 = .ok (.iload_n 1, 1) := by decide +kernel
theorem dX6_ifBalanced_31 : decode cX6_ifBalanced 31 = .ok (.iload_n 2, 1) := by decide +kernel
theorem dX6_ifBalanced_32 : decode cX6_ifBalanced 32 = .ok (.invokevirtual 209, 3) := by decide +kernel
theorem dX6_ifBalanced_35 : decode cX6_ifBalanced 35 = .ok (.goto 8, 3) := by decide +kernel
theorem dX6_ifBalanced_38 : decode cX6_ifBalanced 38 = .ok (.aload_n 0, 1) := by decide +kernel
theorem dX6_ifBalanced_39 : decode cX6_ifBalanced 39 = .ok (.iconst 2, 1) := by decide +kernel
theorem dX6_ifBalanced_40 : decode cX6_ifBalanced 40 = .ok (.invokevirtual 119, 3) := by decide +kernel
theorem dX6_ifBalanced_43 : decode cX6_ifBalanced 43 = .ok (.ireturn, 1) := by decide +kernel
theorem dX6_safestSign_0 : decode cX6_safestSign 0 = .ok (.iconst (-1), 1) := by decide +kernel
theorem dX6_safestSign_1 : decode cX6_safestSign 1 = .ok (.istore_n 2, 1) := by decide +kernel
theorem dX6_safestSign_2 : decode cX6_safestSign 2 = .ok (.iconst (-1), 1) := by decide +kernel
theorem dX6_safestSign_3 : decode cX6_safestSign 3 = .ok (.istore_n 3, 1) := by decide +kernel
theorem dX6_safestSign_4 : decode cX6_safestSign 4 = .ok (.iconst 0, 1) := by decide +kernel
theorem dX6_safestSign_5 : decode cX6_safestSign 5 = .ok (.istore 4, 2) := by decide +kernel
theorem dX6_safestSign_7 : decode cX6_safestSign 7 = .ok (.iload 4, 2) := by decide +kernel
theorem dX6_safestSign_9 : decode cX6_safestSign 9 = .ok (.bipush 18, 2) := by decide +kernel
theorem dX6_safestSign_11 : decode cX6_safestSign 11 = .ok (.if_icmp .ge 80, 3) := by decide +kernel
theorem dX6_safestSign_14 : decode cX6_safestSign 14 = .ok (.iload 4, 2) := by decide +kernel
theorem dX6_safestSign_16 : decode cX6_safestSign 16 = .ok (.invokestatic 66, 3) := by decide +kernel
theorem dX6_safestSign_19 : decode cX6_safestSign 19 = .ok (.invokestatic 76, 3) := by decide +kernel
theorem dX6_safestSign_22 : decode cX6_safestSign 22 = .ok (.istore 5, 2) := by decide +kernel
theorem dX6_safestSign_24 : decode cX6_safestSign 24 = .ok (.aload_n 0, 1) := by decide +kernel
theorem dX6_safestSign_25 : decode cX6_safestSign 25 = .ok (.iload_n 1, 1) := by decide +kernel
theorem dX6_safestSign_26 : decode cX6_safestSign 26 = .ok (.iload 4, 2) := by decide +kernel
theorem dX6_safestSign_28 : decode cX6_safestSign 28 = .ok (.invokestatic 66, 3) := by decide +kernel
theorem dX6_safestSign_31 : decode cX6_safestSign 31 = .ok (.invokevirtual 70, 3) := by decide +kernel
theorem dX6_safestSign_34 : decode cX6_safestSign 34 = .ok (.invokestatic 76, 3) := by decide +kernel
theorem dX6_safestSign_37 : decode cX6_safestSign 37 = .ok (.istore 6, 2) := by decide +kernel
theorem dX6_safestSign_39 : decode cX6_safestSign 39 = .ok (.iload 5, 2) := by decide +kernel
theorem dX6_safestSign_41 : decode cX6_safestSign 41 = .ok (.iload 6, 2) := by decide +kernel
theorem dX6_safestSign_43 : decode cX6_safestSign 43 = .ok (.isub, 1) := by decide +kernel
theorem dX6_safestSign_44 : decode cX6_safestSign 44 = .ok (.iconst 1, 1) := by decide +kernel
theorem dX6_safestSign_45 : decode cX6_safestSign 45 = .ok (.if_icmp .gt 13, 3) := by decide +kernel
theorem dX6_safestSign_48 : decode cX6_safestSign 48 = .ok (.iload 6, 2) := by decide +kernel
theorem dX6_safestSign_50 : decode cX6_safestSign 50 = .ok (.iload_n 3, 1) := by decide +kernel
theorem dX6_safestSign_51 : decode cX6_safestSign 51 = .ok (.if_icmp .le 7, 3) := by decide +kernel
theorem dX6_safestSign_54 : decode cX6_safestSign 54 = .ok (.iconst 1, 1) := by decide +kernel
theorem dX6_safestSign_55 : decode cX6_safestSign 55 = .ok (.goto 4, 3) := by decide +kernel
theorem dX6_safestSign_58 : decode cX6_safestSign 58 = .ok (.iconst 0, 1) := by decide +kernel
theorem dX6_safestSign_59 : decode cX6_safestSign 59 = .ok (.istore 7, 2) := by decide +kernel
theorem dX6_safestSign_61 : decode cX6_safestSign 61 = .ok (.iload 7, 2) := by decide +kernel
theorem dX6_safestSign_63 : decode cX6_safestSign 63 = .ok (.ifCond .eq 8, 3) := by decide +kernel
theorem dX6_safestSign_66 : decode cX6_safestSign 66 = .ok (.iload 4, 2) := by decide +kernel
theorem dX6_safestSign_68 : decode cX6_safestSign 68 = .ok (.goto 4, 3) := by decide +kernel
theorem dX6_safestSign_71 : decode cX6_safestSign 71 = .ok (.iload_n 2, 1) := by decide +kernel
theorem dX6_safestSign_72 : decode cX6_safestSign 72 = .ok (.istore_n 2, 1) := by decide +kernel
theorem dX6_safestSign_73 : decode cX6_safestSign 73 = .ok (.iload 7, 2) := by decide +kernel
theorem dX6_safestSign_75 : decode cX6_safestSign 75 = .ok (.ifCond .eq 8, 3) := by decide +kernel
theorem dX6_safestSign_78 : decode cX6_safestSign 78 = .ok (.iload 6, 2) := by decide +kernel
theorem dX6_safestSign_80 : decode cX6_safestSign 80 = .ok (.goto 4, 3) := by decide +kernel
theorem dX6_safestSign_83 : decode cX6_safestSign 83 = .ok (.iload_n 3, 1) := by decide +kernel
theorem dX6_safestSign_84 : decode cX6_safestSign 84 = .ok (.istore_n 3, 1) := by decide +kernel
theorem dX6_safestSign_85 : decode cX6_safestSign 85 = .ok (.iinc 4 1, 3) := by decide +kernel
theorem dX6_safestSign_88 : decode cX6_safestSign 88 = .ok (.goto (-81), 3) := by decide +kernel
theorem dX6_safestSign_91 : decode cX6_safestSign 91 = .ok (.iload_n 2, 1) := by decide +kernel
theorem dX6_safestSign_92 : decode cX6_safestSign 92 = .ok (.ireturn, 1) := by decide +kernel
theorem dX6_safest_0 : decode cX6_safest 0 = .ok (.aload_n 0, 1) := by decide +kernel
theorem dX6_safest_1 : decode cX6_safest 1 = .ok (.iconst 0, 1) := by decide +kernel
theorem dX6_safest_2 : decode cX6_safest 2 = .ok (.putfield 47, 3) := by decide +kernel
theorem dX6_safest_5 : decode cX6_safest 5 = .ok (.iload_n 1, 1) := by decide +kernel
theorem dX6_safest_6 : decode cX6_safest 6 = .ok (.invokestatic 115, 3) := by decide +kernel
theorem dX6_safest_9 : decode cX6_safest 9 = .ok (.ifCond .eq 11, 3) := by decide +kernel
theorem dX6_safest_12 : decode cX6_safest 12 = .ok (.aload_n 0, 1) := by decide +kernel
theorem dX6_safest_13 : decode cX6_safest 13 = .ok (.iload_n 1, 1) := by decide +kernel
theorem dX6_safest_14 : decode cX6_safest 14 = .ok (.invokevirtual 212, 3) := by decide +kernel
theorem dX6_safest_17 : decode cX6_safest 17 = .ok (.goto 8, 3) := by decide +kernel
theorem dX6_safest_20 : decode cX6_safest 20 = .ok (.aload_n 0, 1) := by decide +kernel
theorem dX6_safest_21 : decode cX6_safest 21 = .ok (.iconst 1, 1) := by decide +kernel
theorem dX6_safest_22 : decode cX6_safest 22 = .ok (.invokevirtual 119, 3) := by decide +kernel
theorem dX6_safest_25 : decode cX6_safest 25 = .ok (.ireturn, 1) := by decide +kernel
theorem dX6_lit_0 : decode cX6_lit 0 = .ok (.iconst 0, 1) := by decide +kernel
theorem dX6_lit_1 : decode cX6_lit 1 = .ok (.istore_n 1, 1) := by decide +kernel
theorem dX6_lit_2 : decode cX6_lit 2 = .ok (.iconst 0, 1) := by decide +kernel
theorem dX6_lit_3 : decode cX6_lit 3 = .ok (.istore_n 2, 1) := by decide +kernel
theorem dX6_lit_4 : decode cX6_lit 4 = .ok (.iload_n 2, 1) := by decide +kernel
theorem dX6_lit_5 : decode cX6_lit 5 = .ok (.bipush 6, 2) := by decide +kernel
theorem dX6_lit_7 : decode cX6_lit 7 = .ok (.if_icmp .ge 18, 3) := by decide +kernel
theorem dX6_lit_10 : decode cX6_lit 10 = .ok (.iload_n 1, 1) := by decide +kernel
theorem dX6_lit_11 : decode cX6_lit 11 = .ok (.aload_n 0, 1) := by decide +kernel
theorem dX6_lit_12 : decode cX6_lit 12 = .ok (.iload_n 2, 1) := by decide +kernel
theorem dX6_lit_13 : decode cX6_lit 13 = .ok (.iconst 2, 1) := by decide +kernel
theorem dX6_lit_14 : decode cX6_lit 14 = .ok (.invokevirtual 62, 3) := by decide +kernel
theorem dX6_lit_17 : decode cX6_lit 17 = .ok (.iadd, 1) := by decide +kernel
theorem dX6_lit_18 : decode cX6_lit 18 = .ok (.istore_n 1, 1) := by decide +kernel
theorem dX6_lit_19 : decode cX6_lit 19 = .ok (.iinc 2 1, 3) := by decide +kernel
theorem dX6_lit_22 : decode cX6_lit 22 = .ok (.goto (-18), 3) := by decide +kernel
theorem dX6_lit_25 : decode cX6_lit 25 = .ok (.iload_n 1, 1) := by decide +kernel
theorem dX6_lit_26 : decode cX6_lit 26 = .ok (.ifCond .ne 7, 3) := by decide +kernel
theorem dX6_lit_29 : decode cX6_lit 29 = .ok (.dconst 0, 1) := by decide +kernel
theorem dX6_lit_30 : decode cX6_lit 30 = .ok (.goto 11, 3) := by decide +kernel
theorem dX6_lit_33 : decode cX6_lit 33 = .ok (.iload_n 1, 1) := by decide +kernel
theorem dX6_lit_34 : decode cX6_lit 34 = .ok (.i2d, 1) := by decide +kernel
theorem dX6_lit_35 : decode cX6_lit 35 = .ok (.aload_n 0, 1) := by decide +kernel
theorem dX6_lit_36 : decode cX6_lit 36 = .ok (.invokevirtual 98, 3) := by decide +kernel
theorem dX6_lit_39 : decode cX6_lit 39 = .ok (.i2d, 1) := by decide +kernel
theorem dX6_lit_40 : decode cX6_lit 40 = .ok (.ddiv, 1) := by decide +kernel
theorem dX6_lit_41 : decode cX6_lit 41 = .ok (.dreturn, 1) := by decide +kernel
theorem dX6_litShare_0 : decode cX6_litShare 0 = .ok (.aload_n 0, 1) := by decide +kernel
theorem dX6_litShare_1 : decode cX6_litShare 1 = .ok (.iconst 0, 1) := by decide +kernel
theorem dX6_litShare_2 : decode cX6_litShare 2 = .ok (.putfield 47, 3) := by decide +kernel
theorem dX6_litShare_5 : decode cX6_litShare 5 = .ok (.aload_n 0, 1) := by decide +kernel
theorem dX6_litShare_6 : decode cX6_litShare 6 = .ok (.invokevirtual 215, 3) := by decide +kernel
theorem dX6_litShare_9 : decode cX6_litShare 9 = .ok (.dreturn, 1) := by decide +kernel
theorem dX6_mean_0 : decode cX6_mean 0 = .ok (.iconst 0, 1) := by decide +kernel
theorem dX6_mean_1 : decode cX6_mean 1 = .ok (.istore_n 1, 1) := by decide +kernel
theorem dX6_mean_2 : decode cX6_mean 2 = .ok (.iconst 0, 1) := by decide +kernel
theorem dX6_mean_3 : decode cX6_mean 3 = .ok (.istore_n 2, 1) := by decide +kernel
theorem dX6_mean_4 : decode cX6_mean 4 = .ok (.iload_n 2, 1) := by decide +kernel
theorem dX6_mean_5 : decode cX6_mean 5 = .ok (.bipush 6, 2) := by decide +kernel
theorem dX6_mean_7 : decode cX6_mean 7 = .ok (.if_icmp .ge 29, 3) := by decide +kernel
theorem dX6_mean_10 : decode cX6_mean 10 = .ok (.iload_n 1, 1) := by decide +kernel
theorem dX6_mean_11 : decode cX6_mean 11 = .ok (.aload_n 0, 1) := by decide +kernel
theorem dX6_mean_12 : decode cX6_mean 12 = .ok (.iload_n 2, 1) := by decide +kernel
theorem dX6_mean_13 : decode cX6_mean 13 = .ok (.invokevirtual 73, 3) := by decide +kernel
theorem dX6_mean_16 : decode cX6_mean 16 = .ok (.ifCond .eq 11, 3) := by decide +kernel
theorem dX6_mean_19 : decode cX6_mean 19 = .ok (.aload_n 0, 1) := by decide +kernel
theorem dX6_mean_20 : decode cX6_mean 20 = .ok (.iload_n 2, 1) := by decide +kernel
theorem dX6_mean_21 : decode cX6_mean 21 = .ok (.invokevirtual 175, 3) := by decide +kernel
theorem dX6_mean_24 : decode cX6_mean 24 = .ok (.goto 4, 3) := by decide +kernel
theorem dX6_mean_27 : decode cX6_mean 27 = .ok (.iconst 0, 1) := by decide +kernel
theorem dX6_mean_28 : decode cX6_mean 28 = .ok (.iadd, 1) := by decide +kernel
theorem dX6_mean_29 : decode cX6_mean 29 = .ok (.istore_n 1, 1) := by decide +kernel
theorem dX6_mean_30 : decode cX6_mean 30 = .ok (.iinc 2 1, 3) := by decide +kernel
theorem dX6_mean_33 : decode cX6_mean 33 = .ok (.goto (-29), 3) := by decide +kernel
theorem dX6_mean_36 : decode cX6_mean 36 = .ok (.aload_n 0, 1) := by decide +kernel
theorem dX6_mean_37 : decode cX6_mean 37 = .ok (.invokevirtual 131, 3) := by decide +kernel
theorem dX6_mean_40 : decode cX6_mean 40 = .ok (.istore_n 2, 1) := by decide +kernel
theorem dX6_mean_41 : decode cX6_mean 41 = .ok (.iload_n 2, 1) := by decide +kernel
theorem dX6_mean_42 : decode cX6_mean 42 = .ok (.ifCond .ne 7, 3) := by decide +kernel
theorem dX6_mean_45 : decode cX6_mean 45 = .ok (.fconst 0, 1) := by decide +kernel
theorem dX6_mean_46 : decode cX6_mean 46 = .ok (.goto 8, 3) := by decide +kernel
theorem dX6_mean_49 : decode cX6_mean 49 = .ok (.iload_n 1, 1) := by decide +kernel
theorem dX6_mean_50 : decode cX6_mean 50 = .ok (.i2f, 1) := by decide +kernel
theorem dX6_mean_51 : decode cX6_mean 51 = .ok (.iload_n 2, 1) := by decide +kernel
theorem dX6_mean_52 : decode cX6_mean 52 = .ok (.i2f, 1) := by decide +kernel
theorem dX6_mean_53 : decode cX6_mean 53 = .ok (.fdiv, 1) := by decide +kernel
theorem dX6_mean_54 : decode cX6_mean 54 = .ok (.freturn, 1) := by decide +kernel
theorem dX6_meanBrightness_0 : decode cX6_meanBrightness 0 = .ok (.aload_n 0, 1) := by decide +kernel
theorem dX6_meanBrightness_1 : decode cX6_meanBrightness 1 = .ok (.iconst 0, 1) := by decide +kernel
theorem dX6_meanBrightness_2 : decode cX6_meanBrightness 2 = .ok (.putfield 47, 3) := by decide +kernel
theorem dX6_meanBrightness_5 : decode cX6_meanBrightness 5 = .ok (.aload_n 0, 1) := by decide +kernel
theorem dX6_meanBrightness_6 : decode cX6_meanBrightness 6 = .ok (.invokevirtual 163, 3) := by decide +kernel
theorem dX6_meanBrightness_9 : decode cX6_meanBrightness 9 = .ok (.aload_n 0, 1) := by decide +kernel
theorem dX6_meanBrightness_10 : decode cX6_meanBrightness 10 = .ok (.invokevirtual 219, 3) := by decide +kernel
theorem dX6_meanBrightness_13 : decode cX6_meanBrightness 13 = .ok (.freturn, 1) := by decide +kernel
theorem dX6_hashes_0 : decode cX6_hashes 0 = .ok (.aload_n 0, 1) := by decide +kernel
theorem dX6_hashes_1 : decode cX6_hashes 1 = .ok (.ldc2_w 223, 3) := by decide +kernel
theorem dX6_hashes_4 : decode cX6_hashes 4 = .ok (.aload_n 0, 1) := by decide +kernel
theorem dX6_hashes_5 : decode cX6_hashes 5 = .ok (.getfield 225, 3) := by decide +kernel
theorem dX6_hashes_8 : decode cX6_hashes 8 = .ok (.lmul, 1) := by decide +kernel
theorem dX6_hashes_9 : decode cX6_hashes 9 = .ok (.lload_n 1, 1) := by decide +kernel
theorem dX6_hashes_10 : decode cX6_hashes 10 = .ok (.ladd, 1) := by decide +kernel
theorem dX6_hashes_11 : decode cX6_hashes 11 = .ok (.putfield 225, 3) := by decide +kernel
theorem dX6_hashes_14 : decode cX6_hashes 14 = .ok (.return_, 1) := by decide +kernel
theorem dX6_hashesSlot_0 : decode cX6_hashesSlot 0 = .ok (.iconst 0, 1) := by decide +kernel
theorem dX6_hashesSlot_1 : decode cX6_hashesSlot 1 = .ok (.istore_n 2, 1) := by decide +kernel
theorem dX6_hashesSlot_2 : decode cX6_hashesSlot 2 = .ok (.iload_n 2, 1) := by decide +kernel
theorem dX6_hashesSlot_3 : decode cX6_hashesSlot 3 = .ok (.bipush 10, 2) := by decide +kernel
theorem dX6_hashesSlot_5 : decode cX6_hashesSlot 5 = .ok (.if_icmp .ge 20, 3) := by decide +kernel
theorem dX6_hashesSlot_8 : decode cX6_hashesSlot 8 = .ok (.aload_n 0, 1) := by decide +kernel
theorem dX6_hashesSlot_9 : decode cX6_hashesSlot 9 = .ok (.aload_n 0, 1) := by decide +kernel
theorem dX6_hashesSlot_10 : decode cX6_hashesSlot 10 = .ok (.iload_n 1, 1) := by decide +kernel
theorem dX6_hashesSlot_11 : decode cX6_hashesSlot 11 = .ok (.iload_n 2, 1) := by decide +kernel
theorem dX6_hashesSlot_12 : decode cX6_hashesSlot 12 = .ok (.invokevirtual 178, 3) := by decide +kernel
theorem dX6_hashesSlot_15 : decode cX6_hashesSlot 15 = .ok (.i2l, 1) := by decide +kernel
theorem dX6_hashesSlot_16 : decode cX6_hashesSlot 16 = .ok (.invokevirtual 229, 3) := by decide +kernel
theorem dX6_hashesSlot_19 : decode cX6_hashesSlot 19 = .ok (.iinc 2 1, 3) := by decide +kernel
theorem dX6_hashesSlot_22 : decode cX6_hashesSlot 22 = .ok (.goto (-20), 3) := by decide +kernel
theorem dX6_hashesSlot_25 : decode cX6_hashesSlot 25 = .ok (.iconst 0, 1) := by decide +kernel
theorem dX6_hashesSlot_26 : decode cX6_hashesSlot 26 = .ok (.istore_n 2, 1) := by decide +kernel
theorem dX6_hashesSlot_27 : decode cX6_hashesSlot 27 = .ok (.iload_n 2, 1) := by decide +kernel
theorem dX6_hashesSlot_28 : decode cX6_hashesSlot 28 = .ok (.bipush 32, 2) := by decide +kernel
theorem dX6_hashesSlot_30 : decode cX6_hashesSlot 30 = .ok (.if_icmp .ge 25, 3) := by decide +kernel
theorem dX6_hashesSlot_33 : decode cX6_hashesSlot 33 = .ok (.aload_n 0, 1) := by decide +kernel
theorem dX6_hashesSlot_34 : decode cX6_hashesSlot 34 = .ok (.aload_n 0, 1) := by decide +kernel
theorem dX6_hashesSlot_35 : decode cX6_hashesSlot 35 = .ok (.iload_n 1, 1) := by decide +kernel
theorem dX6_hashesSlot_36 : decode cX6_hashesSlot 36 = .ok (.iload_n 2, 1) := by decide +kernel
theorem dX6_hashesSlot_37 : decode cX6_hashesSlot 37 = .ok (.iconst 4, 1) := by decide +kernel
theorem dX6_hashesSlot_38 : decode cX6_hashesSlot 38 = .ok (.idiv, 1) := by decide +kernel
theorem dX6_hashesSlot_39 : decode cX6_hashesSlot 39 = .ok (.iload_n 2, 1) := by decide +kernel
theorem dX6_hashesSlot_40 : decode cX6_hashesSlot 40 = .ok (.iconst 4, 1) := by decide +kernel
theorem dX6_hashesSlot_41 : decode cX6_hashesSlot 41 = .ok (.irem, 1) := by decide +kernel
theorem dX6_hashesSlot_42 : decode cX6_hashesSlot 42 = .ok (.invokevirtual 181, 3) := by decide +kernel
theorem dX6_hashesSlot_45 : decode cX6_hashesSlot 45 = .ok (.i2l, 1) := by decide +kernel
theorem dX6_hashesSlot_46 : decode cX6_hashesSlot 46 = .ok (.invokevirtual 229, 3) := by decide +kernel
theorem dX6_hashesSlot_49 : decode cX6_hashesSlot 49 = .ok (.iinc 2 1, 3) := by decide +kernel
theorem dX6_hashesSlot_52 : decode cX6_hashesSlot 52 = .ok (.goto (-25), 3) := by decide +kernel
theorem dX6_hashesSlot_55 : decode cX6_hashesSlot 55 = .ok (.aload_n 0, 1) := by decide +kernel
theorem dX6_hashesSlot_56 : decode cX6_hashesSlot 56 = .ok (.aload_n 0, 1) := by decide +kernel
theorem dX6_hashesSlot_57 : decode cX6_hashesSlot 57 = .ok (.iload_n 1, 1) := by decide +kernel
theorem dX6_hashesSlot_58 : decode cX6_hashesSlot 58 = .ok (.iconst 0, 1) := by decide +kernel
theorem dX6_hashesSlot_59 : decode cX6_hashesSlot 59 = .ok (.invokevirtual 203, 3) := by decide +kernel
theorem dX6_hashesSlot_62 : decode cX6_hashesSlot 62 = .ok (.i2l, 1) := by decide +kernel
theorem dX6_hashesSlot_63 : decode cX6_hashesSlot 63 = .ok (.invokevirtual 229, 3) := by decide +kernel
theorem dX6_hashesSlot_66 : decode cX6_hashesSlot 66 = .ok (.aload_n 0, 1) := by decide +kernel
theorem dX6_hashesSlot_67 : decode cX6_hashesSlot 67 = .ok (.aload_n 0, 1) := by decide +kernel
theorem dX6_hashesSlot_68 : decode cX6_hashesSlot 68 = .ok (.iload_n 1, 1) := by decide +kernel
theorem dX6_hashesSlot_69 : decode cX6_hashesSlot 69 = .ok (.iconst 1, 1) := by decide +kernel
theorem dX6_hashesSlot_70 : decode cX6_hashesSlot 70 = .ok (.invokevirtual 203, 3) := by decide +kernel
theorem dX6_hashesSlot_73 : decode cX6_hashesSlot 73 = .ok (.i2l, 1) := by decide +kernel
theorem dX6_hashesSlot_74 : decode cX6_hashesSlot 74 = .ok (.invokevirtual 229, 3) := by decide +kernel
theorem dX6_hashesSlot_77 : decode cX6_hashesSlot 77 = .ok (.aload_n 0, 1) := by decide +kernel
theorem dX6_hashesSlot_78 : decode cX6_hashesSlot 78 = .ok (.aload_n 0, 1) := by decide +kernel
theorem dX6_hashesSlot_79 : decode cX6_hashesSlot 79 = .ok (.bipush 20, 2) := by decide +kernel
theorem dX6_hashesSlot_81 : decode cX6_hashesSlot 81 = .ok (.iload_n 1, 1) := by decide +kernel
theorem dX6_hashesSlot_82 : decode cX6_hashesSlot 82 = .ok (.invokevirtual 209, 3) := by decide +kernel
theorem dX6_hashesSlot_85 : decode cX6_hashesSlot 85 = .ok (.i2l, 1) := by decide +kernel
theorem dX6_hashesSlot_86 : decode cX6_hashesSlot 86 = .ok (.invokevirtual 229, 3) := by decide +kernel
theorem dX6_hashesSlot_89 : decode cX6_hashesSlot 89 = .ok (.aload_n 0, 1) := by decide +kernel
theorem dX6_hashesSlot_90 : decode cX6_hashesSlot 90 = .ok (.aload_n 0, 1) := by decide +kernel
theorem dX6_hashesSlot_91 : decode cX6_hashesSlot 91 = .ok (.iload_n 1, 1) := by decide +kernel
theorem dX6_hashesSlot_92 : decode cX6_hashesSlot 92 = .ok (.invokevirtual 212, 3) := by decide +kernel
theorem dX6_hashesSlot_95 : decode cX6_hashesSlot 95 = .ok (.i2l, 1) := by decide +kernel
theorem dX6_hashesSlot_96 : decode cX6_hashesSlot 96 = .ok (.invokevirtual 229, 3) := by decide +kernel
theorem dX6_hashesSlot_99 : decode cX6_hashesSlot 99 = .ok (.return_, 1) := by decide +kernel
theorem dX6_digest_0 : decode cX6_digest 0 = .ok (.aload_n 0, 1) := by decide +kernel
theorem dX6_digest_1 : decode cX6_digest 1 = .ok (.iconst 0, 1) := by decide +kernel
theorem dX6_digest_2 : decode cX6_digest 2 = .ok (.putfield 47, 3) := by decide +kernel
theorem dX6_digest_5 : decode cX6_digest 5 = .ok (.aload_n 0, 1) := by decide +kernel
theorem dX6_digest_6 : decode cX6_digest 6 = .ok (.ldc2_w 233, 3) := by decide +kernel
theorem dX6_digest_9 : decode cX6_digest 9 = .ok (.putfield 225, 3) := by decide +kernel
theorem dX6_digest_12 : decode cX6_digest 12 = .ok (.aload_n 0, 1) := by decide +kernel
theorem dX6_digest_13 : decode cX6_digest 13 = .ok (.invokevirtual 163, 3) := by decide +kernel
theorem dX6_digest_16 : decode cX6_digest 16 = .ok (.iconst 0, 1) := by decide +kernel
theorem dX6_digest_17 : decode cX6_digest 17 = .ok (.istore_n 1, 1) := by decide +kernel
theorem dX6_digest_18 : decode cX6_digest 18 = .ok (.iload_n 1, 1) := by decide +kernel
theorem dX6_digest_19 : decode cX6_digest 19 = .ok (.bipush 13, 2) := by decide +kernel
theorem dX6_digest_21 : decode cX6_digest 21 = .ok (.if_icmp .ge 19, 3) := by decide +kernel
theorem dX6_digest_24 : decode cX6_digest 24 = .ok (.aload_n 0, 1) := by decide +kernel
theorem dX6_digest_25 : decode cX6_digest 25 = .ok (.aload_n 0, 1) := by decide +kernel
theorem dX6_digest_26 : decode cX6_digest 26 = .ok (.iload_n 1, 1) := by decide +kernel
theorem dX6_digest_27 : decode cX6_digest 27 = .ok (.invokevirtual 200, 3) := by decide +kernel
theorem dX6_digest_30 : decode cX6_digest 30 = .ok (.i2l, 1) := by decide +kernel
theorem dX6_digest_31 : decode cX6_digest 31 = .ok (.invokevirtual 229, 3) := by decide +kernel
theorem dX6_digest_34 : decode cX6_digest 34 = .ok (.iinc 1 1, 3) := by decide +kernel
theorem dX6_digest_37 : decode cX6_digest 37 = .ok (.goto (-19), 3) := by decide +kernel
theorem dX6_digest_40 : decode cX6_digest 40 = .ok (.iconst 0, 1) := by decide +kernel
theorem dX6_digest_41 : decode cX6_digest 41 = .ok (.istore_n 1, 1) := by decide +kernel
theorem dX6_digest_42 : decode cX6_digest 42 = .ok (.iload_n 1, 1) := by decide +kernel
theorem dX6_digest_43 : decode cX6_digest 43 = .ok (.iconst 4, 1) := by decide +kernel
theorem dX6_digest_44 : decode cX6_digest 44 = .ok (.if_icmp .ge 20, 3) := by decide +kernel
theorem dX6_digest_47 : decode cX6_digest 47 = .ok (.aload_n 0, 1) := by decide +kernel
theorem dX6_digest_48 : decode cX6_digest 48 = .ok (.aload_n 0, 1) := by decide +kernel
theorem dX6_digest_49 : decode cX6_digest 49 = .ok (.getfield 7, 3) := by decide +kernel
theorem dX6_digest_52 : decode cX6_digest 52 = .ok (.iload_n 1, 1) := by decide +kernel
theorem dX6_digest_53 : decode cX6_digest 53 = .ok (.iaload, 1) := by decide +kernel
theorem dX6_digest_54 : decode cX6_digest 54 = .ok (.i2l, 1) := by decide +kernel
theorem dX6_digest_55 : decode cX6_digest 55 = .ok (.invokevirtual 229, 3) := by decide +kernel
theorem dX6_digest_58 : decode cX6_digest 58 = .ok (.iinc 1 1, 3) := by decide +kernel
theorem dX6_digest_61 : decode cX6_digest 61 = .ok (.goto (-19), 3) := by decide +kernel
theorem dX6_digest_64 : decode cX6_digest 64 = .ok (.iconst 0, 1) := by decide +kernel
theorem dX6_digest_65 : decode cX6_digest 65 = .ok (.istore_n 1, 1) := by decide +kernel
theorem dX6_digest_66 : decode cX6_digest 66 = .ok (.iload_n 1, 1) := by decide +kernel
theorem dX6_digest_67 : decode cX6_digest 67 = .ok (.bipush 6, 2) := by decide +kernel
theorem dX6_digest_69 : decode cX6_digest 69 = .ok (.if_icmp .ge 14, 3) := by decide +kernel
theorem dX6_digest_72 : decode cX6_digest 72 = .ok (.aload_n 0, 1) := by decide +kernel
theorem dX6_digest_73 : decode cX6_digest 73 = .ok (.iload_n 1, 1) := by decide +kernel
theorem dX6_digest_74 : decode cX6_digest 74 = .ok (.invokevirtual 235, 3) := by decide +kernel
theorem dX6_digest_77 : decode cX6_digest 77 = .ok (.iinc 1 1, 3) := by decide +kernel
theorem dX6_digest_80 : decode cX6_digest 80 = .ok (.goto (-14), 3) := by decide +kernel
theorem dX6_digest_83 : decode cX6_digest 83 = .ok (.aload_n 0, 1) := by decide +kernel
theorem dX6_digest_84 : decode cX6_digest 84 = .ok (.aload_n 0, 1) := by decide +kernel
theorem dX6_digest_85 : decode cX6_digest 85 = .ok (.iconst 0, 1) := by decide +kernel
theorem dX6_digest_86 : decode cX6_digest 86 = .ok (.iconst 5, 1) := by decide +kernel
theorem dX6_digest_87 : decode cX6_digest 87 = .ok (.invokevirtual 206, 3) := by decide +kernel
theorem dX6_digest_90 : decode cX6_digest 90 = .ok (.i2l, 1) := by decide +kernel
theorem dX6_digest_91 : decode cX6_digest 91 = .ok (.invokevirtual 229, 3) := by decide +kernel
theorem dX6_digest_94 : decode cX6_digest 94 = .ok (.aload_n 0, 1) := by decide +kernel
theorem dX6_digest_95 : decode cX6_digest 95 = .ok (.invokevirtual 163, 3) := by decide +kernel
theorem dX6_digest_98 : decode cX6_digest 98 = .ok (.aload_n 0, 1) := by decide +kernel
theorem dX6_digest_99 : decode cX6_digest 99 = .ok (.aload_n 0, 1) := by decide +kernel
theorem dX6_digest_100 : decode cX6_digest 100 = .ok (.invokevirtual 215, 3) := by decide +kernel
theorem dX6_digest_103 : decode cX6_digest 103 = .ok (.invokestatic 238, 3) := by decide +kernel
theorem dX6_digest_106 : decode cX6_digest 106 = .ok (.invokevirtual 229, 3) := by decide +kernel
theorem dX6_digest_109 : decode cX6_digest 109 = .ok (.aload_n 0, 1) := by decide +kernel
theorem dX6_digest_110 : decode cX6_digest 110 = .ok (.aload_n 0, 1) := by decide +kernel
theorem dX6_digest_111 : decode cX6_digest 111 = .ok (.invokevirtual 219, 3) := by decide +kernel
theorem dX6_digest_114 : decode cX6_digest 114 = .ok (.invokestatic 244, 3) := by decide +kernel
theorem dX6_digest_117 : decode cX6_digest 117 = .ok (.i2l, 1) := by decide +kernel
theorem dX6_digest_118 : decode cX6_digest 118 = .ok (.invokevirtual 229, 3) := by decide +kernel
theorem dX6_digest_121 : decode cX6_digest 121 = .ok (.aload_n 0, 1) := by decide +kernel
theorem dX6_digest_122 : decode cX6_digest 122 = .ok (.aload_n 0, 1) := by decide +kernel
theorem dX6_digest_123 : decode cX6_digest 123 = .ok (.getfield 19, 3) := by decide +kernel
theorem dX6_digest_126 : decode cX6_digest 126 = .ok (.iconst 0, 1) := by decide +kernel
theorem dX6_digest_127 : decode cX6_digest 127 = .ok (.baload, 1) := by decide +kernel
theorem dX6_digest_128 : decode cX6_digest 128 = .ok (.ifCond .eq 7, 3) := by decide +kernel
theorem dX6_digest_131 : decode cX6_digest 131 = .ok (.lconst 1, 1) := by decide +kernel
theorem dX6_digest_132 : decode cX6_digest 132 = .ok (.goto 4, 3) := by decide +kernel
theorem dX6_digest_135 : decode cX6_digest 135 = .ok (.lconst 0, 1) := by decide +kernel
theorem dX6_digest_136 : decode cX6_digest 136 = .ok (.invokevirtual 229, 3) := by decide +kernel
theorem dX6_digest_139 : decode cX6_digest 139 = .ok (.aload_n 0, 1) := by decide +kernel
theorem dX6_digest_140 : decode cX6_digest 140 = .ok (.aload_n 0, 1) := by decide +kernel
theorem dX6_digest_141 : decode cX6_digest 141 = .ok (.getfield 19, 3) := by decide +kernel
theorem dX6_digest_144 : decode cX6_digest 144 = .ok (.iconst 1, 1) := by decide +kernel
theorem dX6_digest_145 : decode cX6_digest 145 = .ok (.baload, 1) := by decide +kernel
theorem dX6_digest_146 : decode cX6_digest 146 = .ok (.ifCond .eq 7, 3) := by decide +kernel
theorem dX6_digest_149 : decode cX6_digest 149 = .ok (.lconst 1, 1) := by decide +kernel
theorem dX6_digest_150 : decode cX6_digest 150 = .ok (.goto 4, 3) := by decide +kernel
theorem dX6_digest_153 : decode cX6_digest 153 = .ok (.lconst 0, 1) := by decide +kernel
theorem dX6_digest_154 : decode cX6_digest 154 = .ok (.invokevirtual 229, 3) := by decide +kernel
theorem dX6_digest_157 : decode cX6_digest 157 = .ok (.aload_n 0, 1) := by decide +kernel
theorem dX6_digest_158 : decode cX6_digest 158 = .ok (.aload_n 0, 1) := by decide +kernel
theorem dX6_digest_159 : decode cX6_digest 159 = .ok (.getfield 138, 3) := by decide +kernel
theorem dX6_digest_162 : decode cX6_digest 162 = .ok (.i2l, 1) := by decide +kernel
theorem dX6_digest_163 : decode cX6_digest 163 = .ok (.invokevirtual 229, 3) := by decide +kernel
theorem dX6_digest_166 : decode cX6_digest 166 = .ok (.iconst 0, 1) := by decide +kernel
theorem dX6_digest_167 : decode cX6_digest 167 = .ok (.istore_n 1, 1) := by decide +kernel
theorem dX6_digest_168 : decode cX6_digest 168 = .ok (.iload_n 1, 1) := by decide +kernel
theorem dX6_digest_169 : decode cX6_digest 169 = .ok (.aload_n 0, 1) := by decide +kernel
theorem dX6_digest_170 : decode cX6_digest 170 = .ok (.getfield 138, 3) := by decide +kernel
theorem dX6_digest_173 : decode cX6_digest 173 = .ok (.if_icmp .ge 20, 3) := by decide +kernel
theorem dX6_digest_176 : decode cX6_digest 176 = .ok (.aload_n 0, 1) := by decide +kernel
theorem dX6_digest_177 : decode cX6_digest 177 = .ok (.aload_n 0, 1) := by decide +kernel
theorem dX6_digest_178 : decode cX6_digest 178 = .ok (.getfield 23, 3) := by decide +kernel
theorem dX6_digest_181 : decode cX6_digest 181 = .ok (.iload_n 1, 1) := by decide +kernel
theorem dX6_digest_182 : decode cX6_digest 182 = .ok (.iaload, 1) := by decide +kernel
theorem dX6_digest_183 : decode cX6_digest 183 = .ok (.i2l, 1) := by decide +kernel
theorem dX6_digest_184 : decode cX6_digest 184 = .ok (.invokevirtual 229, 3) := by decide +kernel
theorem dX6_digest_187 : decode cX6_digest 187 = .ok (.iinc 1 1, 3) := by decide +kernel
theorem dX6_digest_190 : decode cX6_digest 190 = .ok (.goto (-22), 3) := by decide +kernel
theorem dX6_digest_193 : decode cX6_digest 193 = .ok (.aload_n 0, 1) := by decide +kernel
theorem dX6_digest_194 : decode cX6_digest 194 = .ok (.getfield 225, 3) := by decide +kernel
theorem dX6_digest_197 : decode cX6_digest 197 = .ok (.lreturn, 1) := by decide +kernel
theorem dJ11_isValidCodePoint_9a6ad_0 : decode cJ11_isValidCodePoint_9a6ad 0 = .ok (.iload_n 0, 1) := by decide +kernel
theorem dJ11_isValidCodePoint_9a6ad_1 : decode cJ11_isValidCodePoint_9a6ad 1 = .ok (.bipush 16, 2) := by decide +kernel
theorem dJ11_isValidCodePoint_9a6ad_3 : decode cJ11_isValidCodePoint_9a6ad 3 = .ok (.iushr, 1) := by decide +kernel
theorem dJ11_isValidCodePoint_9a6ad_4 : decode cJ11_isValidCodePoint_9a6ad 4 = .ok (.istore_n 1, 1) := by decide +kernel
theorem dJ11_isValidCodePoint_9a6ad_5 : decode cJ11_isValidCodePoint_9a6ad 5 = .ok (.iload_n 1, 1) := by decide +kernel
theorem dJ11_isValidCodePoint_9a6ad_6 : decode cJ11_isValidCodePoint_9a6ad 6 = .ok (.bipush 17, 2) := by decide +kernel
theorem dJ11_isValidCodePoint_9a6ad_8 : decode cJ11_isValidCodePoint_9a6ad 8 = .ok (.if_icmp .ge 7, 3) := by decide +kernel
theorem dJ11_isValidCodePoint_9a6ad_11 : decode cJ11_isValidCodePoint_9a6ad 11 = .ok (.iconst 1, 1) := by decide +kernel
theorem dJ11_isValidCodePoint_9a6ad_12 : decode cJ11_isValidCodePoint_9a6ad 12 = .ok (.goto 4, 3) := by decide +kernel
theorem dJ11_isValidCodePoint_9a6ad_15 : decode cJ11_isValidCodePoint_9a6ad 15 = .ok (.iconst 0, 1) := by decide +kernel
theorem dJ11_isValidCodePoint_9a6ad_16 : decode cJ11_isValidCodePoint_9a6ad 16 = .ok (.ireturn, 1) := by decide +kernel
theorem dJ11_highSurrogate_5068e_0 : decode cJ11_highSurrogate_5068e 0 = .ok (.iload_n 0, 1) := by decide +kernel
theorem dJ11_highSurrogate_5068e_1 : decode cJ11_highSurrogate_5068e 1 = .ok (.bipush 10, 2) := by decide +kernel
theorem dJ11_highSurrogate_5068e_3 : decode cJ11_highSurrogate_5068e 3 = .ok (.iushr, 1) := by decide +kernel
theorem dJ11_highSurrogate_5068e_4 : decode cJ11_highSurrogate_5068e 4 = .ok (.ldc 110, 2) := by decide +kernel
theorem dJ11_highSurrogate_5068e_6 : decode cJ11_highSurrogate_5068e 6 = .ok (.iadd, 1) := by decide +kernel
theorem dJ11_highSurrogate_5068e_7 : decode cJ11_highSurrogate_5068e 7 = .ok (.i2c, 1) := by decide +kernel
theorem dJ11_highSurrogate_5068e_8 : decode cJ11_highSurrogate_5068e 8 = .ok (.ireturn, 1) := by decide +kernel
theorem dJ11_lowSurrogate_5068e_0 : decode cJ11_lowSurrogate_5068e 0 = .ok (.iload_n 0, 1) := by decide +kernel
theorem dJ11_lowSurrogate_5068e_1 : decode cJ11_lowSurrogate_5068e 1 = .ok (.sipush 1023, 3) := by decide +kernel
theorem dJ11_lowSurrogate_5068e_4 : decode cJ11_lowSurrogate_5068e 4 = .ok (.iand, 1) := by decide +kernel
theorem dJ11_lowSurrogate_5068e_5 : decode cJ11_lowSurrogate_5068e 5 = .ok (.ldc 76, 2) := by decide +kernel
theorem dJ11_lowSurrogate_5068e_7 : decode cJ11_lowSurrogate_5068e 7 = .ok (.iadd, 1) := by decide +kernel
theorem dJ11_lowSurrogate_5068e_8 : decode cJ11_lowSurrogate_5068e 8 = .ok (.i2c, 1) := by decide +kernel
theorem dJ11_lowSurrogate_5068e_9 : decode cJ11_lowSurrogate_5068e 9 = .ok (.ireturn, 1) := by decide +kernel
theorem dJxe99ae_isNaN_b9ae7_0 : decode cJxe99ae_isNaN_b9ae7 0 = .ok (.dload_n 0, 1) := by decide +kernel
theorem dJxe99ae_isNaN_b9ae7_1 : decode cJxe99ae_isNaN_b9ae7 1 = .ok (.dload_n 0, 1) := by decide +kernel
theorem dJxe99ae_isNaN_b9ae7_2 : decode cJxe99ae_isNaN_b9ae7 2 = .ok (.dcmp .l, 1) := by decide +kernel
theorem dJxe99ae_isNaN_b9ae7_3 : decode cJxe99ae_isNaN_b9ae7 3 = .ok (.ifCond .eq 7, 3) := by decide +kernel
theorem dJxe99ae_isNaN_b9ae7_6 : decode cJxe99ae_isNaN_b9ae7 6 = .ok (.iconst 1, 1) := by decide +kernel
theorem dJxe99ae_isNaN_b9ae7_7 : decode cJxe99ae_isNaN_b9ae7 7 = .ok (.goto 4, 3) := by decide +kernel
theorem dJxe99ae_isNaN_b9ae7_10 : decode cJxe99ae_isNaN_b9ae7 10 = .ok (.iconst 0, 1) := by decide +kernel
theorem dJxe99ae_isNaN_b9ae7_11 : decode cJxe99ae_isNaN_b9ae7 11 = .ok (.ireturn, 1) := by decide +kernel
theorem dJxe99ae_doubleToLongBits_ccdee_0 : decode cJxe99ae_doubleToLongBits_ccdee 0 = .ok (.dload_n 0, 1) := by decide +kernel
theorem dJxe99ae_doubleToLongBits_ccdee_1 : decode cJxe99ae_doubleToLongBits_ccdee 1 = .ok (.invokestatic 122, 3) := by decide +kernel
theorem dJxe99ae_doubleToLongBits_ccdee_4 : decode cJxe99ae_doubleToLongBits_ccdee 4 = .ok (.ifCond .ne 8, 3) := by decide +kernel
theorem dJxe99ae_doubleToLongBits_ccdee_7 : decode cJxe99ae_doubleToLongBits_ccdee 7 = .ok (.dload_n 0, 1) := by decide +kernel
theorem dJxe99ae_doubleToLongBits_ccdee_8 : decode cJxe99ae_doubleToLongBits_ccdee 8 = .ok (.invokestatic 134, 3) := by decide +kernel
theorem dJxe99ae_doubleToLongBits_ccdee_11 : decode cJxe99ae_doubleToLongBits_ccdee 11 = .ok (.lreturn, 1) := by decide +kernel
theorem dJxe99ae_doubleToLongBits_ccdee_12 : decode cJxe99ae_doubleToLongBits_ccdee 12 = .ok (.ldc2_w 137, 3) := by decide +kernel
theorem dJxe99ae_doubleToLongBits_ccdee_15 : decode cJxe99ae_doubleToLongBits_ccdee 15 = .ok (.lreturn, 1) := by decide +kernel
theorem dJxf58ca_isNaN_12338_0 : decode cJxf58ca_isNaN_12338 0 = .ok (.fload_n 0, 1) := by decide +kernel
theorem dJxf58ca_isNaN_12338_1 : decode cJxf58ca_isNaN_12338 1 = .ok (.fload_n 0, 1) := by decide +kernel
theorem dJxf58ca_isNaN_12338_2 : decode cJxf58ca_isNaN_12338 2 = .ok (.fcmp .l, 1) := by decide +kernel
theorem dJxf58ca_isNaN_12338_3 : decode cJxf58ca_isNaN_12338 3 = .ok (.ifCond .eq 7, 3) := by decide +kernel
theorem dJxf58ca_isNaN_12338_6 : decode cJxf58ca_isNaN_12338 6 = .ok (.iconst 1, 1) := by decide +kernel
theorem dJxf58ca_isNaN_12338_7 : decode cJxf58ca_isNaN_12338 7 = .ok (.goto 4, 3) := by decide +kernel
theorem dJxf58ca_isNaN_12338_10 : decode cJxf58ca_isNaN_12338 10 = .ok (.iconst 0, 1) := by decide +kernel
theorem dJxf58ca_isNaN_12338_11 : decode cJxf58ca_isNaN_12338 11 = .ok (.ireturn, 1) := by decide +kernel
theorem dJxf58ca_floatToIntBits_5c35a_0 : decode cJxf58ca_floatToIntBits_5c35a 0 = .ok (.fload_n 0, 1) := by decide +kernel
theorem dJxf58ca_floatToIntBits_5c35a_1 : decode cJxf58ca_floatToIntBits_5c35a 1 = .ok (.invokestatic 59, 3) := by decide +kernel
theorem dJxf58ca_floatToIntBits_5c35a_4 : decode cJxf58ca_floatToIntBits_5c35a 4 = .ok (.ifCond .ne 8, 3) := by decide +kernel
theorem dJxf58ca_floatToIntBits_5c35a_7 : decode cJxf58ca_floatToIntBits_5c35a 7 = .ok (.fload_n 0, 1) := by decide +kernel
theorem dJxf58ca_floatToIntBits_5c35a_8 : decode cJxf58ca_floatToIntBits_5c35a 8 = .ok (.invokestatic 74, 3) := by decide +kernel
theorem dJxf58ca_floatToIntBits_5c35a_11 : decode cJxf58ca_floatToIntBits_5c35a 11 = .ok (.ireturn, 1) := by decide +kernel
theorem dJxf58ca_floatToIntBits_5c35a_12 : decode cJxf58ca_floatToIntBits_5c35a 12 = .ok (.ldc 77, 2) := by decide +kernel
theorem dJxf58ca_floatToIntBits_5c35a_14 : decode cJxf58ca_floatToIntBits_5c35a 14 = .ok (.ireturn, 1) := by decide +kernel
theorem dJ6_bitCount_0f7a4_0 : decode cJ6_bitCount_0f7a4 0 = .ok (.iload_n 0, 1) := by decide +kernel
theorem dJ6_bitCount_0f7a4_1 : decode cJ6_bitCount_0f7a4 1 = .ok (.iload_n 0, 1) := by decide +kernel
theorem dJ6_bitCount_0f7a4_2 : decode cJ6_bitCount_0f7a4 2 = .ok (.iconst 1, 1) := by decide +kernel
theorem dJ6_bitCount_0f7a4_3 : decode cJ6_bitCount_0f7a4 3 = .ok (.iushr, 1) := by decide +kernel
theorem dJ6_bitCount_0f7a4_4 : decode cJ6_bitCount_0f7a4 4 = .ok (.ldc_w 265, 3) := by decide +kernel
theorem dJ6_bitCount_0f7a4_7 : decode cJ6_bitCount_0f7a4 7 = .ok (.iand, 1) := by decide +kernel
theorem dJ6_bitCount_0f7a4_8 : decode cJ6_bitCount_0f7a4 8 = .ok (.isub, 1) := by decide +kernel
theorem dJ6_bitCount_0f7a4_9 : decode cJ6_bitCount_0f7a4 9 = .ok (.istore_n 0, 1) := by decide +kernel
theorem dJ6_bitCount_0f7a4_10 : decode cJ6_bitCount_0f7a4 10 = .ok (.iload_n 0, 1) := by decide +kernel
theorem dJ6_bitCount_0f7a4_11 : decode cJ6_bitCount_0f7a4 11 = .ok (.ldc_w 266, 3) := by decide +kernel
theorem dJ6_bitCount_0f7a4_14 : decode cJ6_bitCount_0f7a4 14 = .ok (.iand, 1) := by decide +kernel
theorem dJ6_bitCount_0f7a4_15 : decode cJ6_bitCount_0f7a4 15 = .ok (.iload_n 0, 1) := by decide +kernel
theorem dJ6_bitCount_0f7a4_16 : decode cJ6_bitCount_0f7a4 16 = .ok (.iconst 2, 1) := by decide +kernel
theorem dJ6_bitCount_0f7a4_17 : decode cJ6_bitCount_0f7a4 17 = .ok (.iushr, 1) := by decide +kernel
theorem dJ6_bitCount_0f7a4_18 : decode cJ6_bitCount_0f7a4 18 = .ok (.ldc_w 266, 3) := by decide +kernel
theorem dJ6_bitCount_0f7a4_21 : decode cJ6_bitCount_0f7a4 21 = .ok (.iand, 1) := by decide +kernel
theorem dJ6_bitCount_0f7a4_22 : decode cJ6_bitCount_0f7a4 22 = .ok (.iadd, 1) := by decide +kernel
theorem dJ6_bitCount_0f7a4_23 : decode cJ6_bitCount_0f7a4 23 = .ok (.istore_n 0, 1) := by decide +kernel
theorem dJ6_bitCount_0f7a4_24 : decode cJ6_bitCount_0f7a4 24 = .ok (.iload_n 0, 1) := by decide +kernel
theorem dJ6_bitCount_0f7a4_25 : decode cJ6_bitCount_0f7a4 25 = .ok (.iload_n 0, 1) := by decide +kernel
theorem dJ6_bitCount_0f7a4_26 : decode cJ6_bitCount_0f7a4 26 = .ok (.iconst 4, 1) := by decide +kernel
theorem dJ6_bitCount_0f7a4_27 : decode cJ6_bitCount_0f7a4 27 = .ok (.iushr, 1) := by decide +kernel
theorem dJ6_bitCount_0f7a4_28 : decode cJ6_bitCount_0f7a4 28 = .ok (.iadd, 1) := by decide +kernel
theorem dJ6_bitCount_0f7a4_29 : decode cJ6_bitCount_0f7a4 29 = .ok (.ldc_w 267, 3) := by decide +kernel
theorem dJ6_bitCount_0f7a4_32 : decode cJ6_bitCount_0f7a4 32 = .ok (.iand, 1) := by decide +kernel
theorem dJ6_bitCount_0f7a4_33 : decode cJ6_bitCount_0f7a4 33 = .ok (.istore_n 0, 1) := by decide +kernel
theorem dJ6_bitCount_0f7a4_34 : decode cJ6_bitCount_0f7a4 34 = .ok (.iload_n 0, 1) := by decide +kernel
theorem dJ6_bitCount_0f7a4_35 : decode cJ6_bitCount_0f7a4 35 = .ok (.iload_n 0, 1) := by decide +kernel
theorem dJ6_bitCount_0f7a4_36 : decode cJ6_bitCount_0f7a4 36 = .ok (.bipush 8, 2) := by decide +kernel
theorem dJ6_bitCount_0f7a4_38 : decode cJ6_bitCount_0f7a4 38 = .ok (.iushr, 1) := by decide +kernel
theorem dJ6_bitCount_0f7a4_39 : decode cJ6_bitCount_0f7a4 39 = .ok (.iadd, 1) := by decide +kernel
theorem dJ6_bitCount_0f7a4_40 : decode cJ6_bitCount_0f7a4 40 = .ok (.istore_n 0, 1) := by decide +kernel
theorem dJ6_bitCount_0f7a4_41 : decode cJ6_bitCount_0f7a4 41 = .ok (.iload_n 0, 1) := by decide +kernel
theorem dJ6_bitCount_0f7a4_42 : decode cJ6_bitCount_0f7a4 42 = .ok (.iload_n 0, 1) := by decide +kernel
theorem dJ6_bitCount_0f7a4_43 : decode cJ6_bitCount_0f7a4 43 = .ok (.bipush 16, 2) := by decide +kernel
theorem dJ6_bitCount_0f7a4_45 : decode cJ6_bitCount_0f7a4 45 = .ok (.iushr, 1) := by decide +kernel
theorem dJ6_bitCount_0f7a4_46 : decode cJ6_bitCount_0f7a4 46 = .ok (.iadd, 1) := by decide +kernel
theorem dJ6_bitCount_0f7a4_47 : decode cJ6_bitCount_0f7a4 47 = .ok (.istore_n 0, 1) := by decide +kernel
theorem dJ6_bitCount_0f7a4_48 : decode cJ6_bitCount_0f7a4 48 = .ok (.iload_n 0, 1) := by decide +kernel
theorem dJ6_bitCount_0f7a4_49 : decode cJ6_bitCount_0f7a4 49 = .ok (.bipush 63, 2) := by decide +kernel
theorem dJ6_bitCount_0f7a4_51 : decode cJ6_bitCount_0f7a4 51 = .ok (.iand, 1) := by decide +kernel
theorem dJ6_bitCount_0f7a4_52 : decode cJ6_bitCount_0f7a4 52 = .ok (.ireturn, 1) := by decide +kernel
theorem dJ9_max_7cf53_0 : decode cJ9_max_7cf53 0 = .ok (.iload_n 0, 1) := by decide +kernel
theorem dJ9_max_7cf53_1 : decode cJ9_max_7cf53 1 = .ok (.iload_n 1, 1) := by decide +kernel
theorem dJ9_max_7cf53_2 : decode cJ9_max_7cf53 2 = .ok (.if_icmp .lt 7, 3) := by decide +kernel
theorem dJ9_max_7cf53_5 : decode cJ9_max_7cf53 5 = .ok (.iload_n 0, 1) := by decide +kernel
theorem dJ9_max_7cf53_6 : decode cJ9_max_7cf53 6 = .ok (.goto 4, 3) := by decide +kernel
theorem dJ9_max_7cf53_9 : decode cJ9_max_7cf53 9 = .ok (.iload_n 1, 1) := by decide +kernel
theorem dJ9_max_7cf53_10 : decode cJ9_max_7cf53 10 = .ok (.ireturn, 1) := by decide +kernel
theorem dJ9_min_7cf53_0 : decode cJ9_min_7cf53 0 = .ok (.iload_n 0, 1) := by decide +kernel
theorem dJ9_min_7cf53_1 : decode cJ9_min_7cf53 1 = .ok (.iload_n 1, 1) := by decide +kernel
theorem dJ9_min_7cf53_2 : decode cJ9_min_7cf53 2 = .ok (.if_icmp .gt 7, 3) := by decide +kernel
theorem dJ9_min_7cf53_5 : decode cJ9_min_7cf53 5 = .ok (.iload_n 0, 1) := by decide +kernel
theorem dJ9_min_7cf53_6 : decode cJ9_min_7cf53 6 = .ok (.goto 4, 3) := by decide +kernel
theorem dJ9_min_7cf53_9 : decode cJ9_min_7cf53 9 = .ok (.iload_n 1, 1) := by decide +kernel
theorem dJ9_min_7cf53_10 : decode cJ9_min_7cf53 10 = .ok (.ireturn, 1) := by decide +kernel
theorem dJ0_length_8abf5_0 : decode cJ0_length_8abf5 0 = .ok (.aload_n 0, 1) := by decide +kernel
theorem dJ0_length_8abf5_1 : decode cJ0_length_8abf5 1 = .ok (.getfield 9, 3) := by decide +kernel
theorem dJ0_length_8abf5_4 : decode cJ0_length_8abf5 4 = .ok (.arraylength, 1) := by decide +kernel
theorem dJ0_length_8abf5_5 : decode cJ0_length_8abf5 5 = .ok (.aload_n 0, 1) := by decide +kernel
theorem dJ0_length_8abf5_6 : decode cJ0_length_8abf5 6 = .ok (.invokevirtual 335, 3) := by decide +kernel
theorem dJ0_length_8abf5_9 : decode cJ0_length_8abf5 9 = .ok (.ishr, 1) := by decide +kernel
theorem dJ0_length_8abf5_10 : decode cJ0_length_8abf5 10 = .ok (.ireturn, 1) := by decide +kernel
theorem dJ0_charAt_5068e_0 : decode cJ0_charAt_5068e 0 = .ok (.aload_n 0, 1) := by decide +kernel
theorem dJ0_charAt_5068e_1 : decode cJ0_charAt_5068e 1 = .ok (.invokevirtual 492, 3) := by decide +kernel
theorem dJ0_charAt_5068e_4 : decode cJ0_charAt_5068e 4 = .ok (.ifCond .eq 12, 3) := by decide +kernel
theorem dJ0_charAt_5068e_7 : decode cJ0_charAt_5068e 7 = .ok (.aload_n 0, 1) := by decide +kernel
theorem dJ0_charAt_5068e_8 : decode cJ0_charAt_5068e 8 = .ok (.getfield 9, 3) := by decide +kernel
theorem dJ0_charAt_5068e_11 : decode cJ0_charAt_5068e 11 = .ok (.iload_n 1, 1) := by decide +kernel
theorem dJ0_charAt_5068e_12 : decode cJ0_charAt_5068e 12 = .ok (.invokestatic 495, 3) := by decide +kernel
theorem dJ0_charAt_5068e_15 : decode cJ0_charAt_5068e 15 = .ok (.ireturn, 1) := by decide +kernel
theorem dJ0_charAt_5068e_16 : decode cJ0_charAt_5068e 16 = .ok (.aload_n 0, 1) := by decide +kernel
theorem dJ0_charAt_5068e_17 : decode cJ0_charAt_5068e 17 = .ok (.getfield 9, 3) := by decide +kernel
theorem dJ0_charAt_5068e_20 : decode cJ0_charAt_5068e 20 = .ok (.iload_n 1, 1) := by decide +kernel
theorem dJ0_charAt_5068e_21 : decode cJ0_charAt_5068e 21 = .ok (.invokestatic 498, 3) := by decide +kernel
theorem dJ0_charAt_5068e_24 : decode cJ0_charAt_5068e 24 = .ok (.ireturn, 1) := by decide +kernel
theorem dJ0_indexOf_0f7a4_0 : decode cJ0_indexOf_0f7a4 0 = .ok (.aload_n 0, 1) := by decide +kernel
theorem dJ0_indexOf_0f7a4_1 : decode cJ0_indexOf_0f7a4 1 = .ok (.iload_n 1, 1) := by decide +kernel
theorem dJ0_indexOf_0f7a4_2 : decode cJ0_indexOf_0f7a4 2 = .ok (.iconst 0, 1) := by decide +kernel
theorem dJ0_indexOf_0f7a4_3 : decode cJ0_indexOf_0f7a4 3 = .ok (.invokevirtual 633, 3) := by decide +kernel
theorem dJ0_indexOf_0f7a4_6 : decode cJ0_indexOf_0f7a4 6 = .ok (.ireturn, 1) := by decide +kernel
theorem dJ0_indexOf_7cf53_0 : decode cJ0_indexOf_7cf53 0 = .ok (.aload_n 0, 1) := by decide +kernel
theorem dJ0_indexOf_7cf53_1 : decode cJ0_indexOf_7cf53 1 = .ok (.invokevirtual 492, 3) := by decide +kernel
theorem dJ0_indexOf_7cf53_4 : decode cJ0_indexOf_7cf53 4 = .ok (.ifCond .eq 19, 3) := by decide +kernel
theorem dJ0_indexOf_7cf53_7 : decode cJ0_indexOf_7cf53 7 = .ok (.aload_n 0, 1) := by decide +kernel
theorem dJ0_indexOf_7cf53_8 : decode cJ0_indexOf_7cf53 8 = .ok (.getfield 9, 3) := by decide +kernel
theorem dJ0_indexOf_7cf53_11 : decode cJ0_indexOf_7cf53 11 = .ok (.iload_n 1, 1) := by decide +kernel
theorem dJ0_indexOf_7cf53_12 : decode cJ0_indexOf_7cf53 12 = .ok (.iload_n 2, 1) := by decide +kernel
theorem dJ0_indexOf_7cf53_13 : decode cJ0_indexOf_7cf53 13 = .ok (.aload_n 0, 1) := by decide +kernel
theorem dJ0_indexOf_7cf53_14 : decode cJ0_indexOf_7cf53 14 = .ok (.invokevirtual 505, 3) := by decide +kernel
theorem dJ0_indexOf_7cf53_17 : decode cJ0_indexOf_7cf53 17 = .ok (.invokestatic 637, 3) := by decide +kernel
theorem dJ0_indexOf_7cf53_20 : decode cJ0_indexOf_7cf53 20 = .ok (.goto 16, 3) := by decide +kernel
theorem dJ0_indexOf_7cf53_23 : decode cJ0_indexOf_7cf53 23 = .ok (.aload_n 0, 1) := by decide +kernel
theorem dJ0_indexOf_7cf53_24 : decode cJ0_indexOf_7cf53 24 = .ok (.getfield 9, 3) := by decide +kernel
theorem dJ0_indexOf_7cf53_27 : decode cJ0_indexOf_7cf53 27 = .ok (.iload_n 1, 1) := by decide +kernel
theorem dJ0_indexOf_7cf53_28 : decode cJ0_indexOf_7cf53 28 = .ok (.iload_n 2, 1) := by decide +kernel
theorem dJ0_indexOf_7cf53_29 : decode cJ0_indexOf_7cf53 29 = .ok (.aload_n 0, 1) := by decide +kernel
theorem dJ0_indexOf_7cf53_30 : decode cJ0_indexOf_7cf53 30 = .ok (.invokevirtual 505, 3) := by decide +kernel
theorem dJ0_indexOf_7cf53_33 : decode cJ0_indexOf_7cf53 33 = .ok (.invokestatic 640, 3) := by decide +kernel
theorem dJ0_indexOf_7cf53_36 : decode cJ0_indexOf_7cf53 36 = .ok (.ireturn, 1) := by decide +kernel
theorem dJ0_coder_7d493_0 : decode cJ0_coder_7d493 0 = .ok (.getstatic 38, 3) := by decide +kernel
theorem dJ0_coder_7d493_3 : decode cJ0_coder_7d493 3 = .ok (.ifCond .eq 10, 3) := by decide +kernel
theorem dJ0_coder_7d493_6 : decode cJ0_coder_7d493 6 = .ok (.aload_n 0, 1) := by decide +kernel
theorem dJ0_coder_7d493_7 : decode cJ0_coder_7d493 7 = .ok (.getfield 15, 3) := by decide +kernel
theorem dJ0_coder_7d493_10 : decode cJ0_coder_7d493 10 = .ok (.goto 4, 3) := by decide +kernel
theorem dJ0_coder_7d493_13 : decode cJ0_coder_7d493 13 = .ok (.iconst 1, 1) := by decide +kernel
theorem dJ0_coder_7d493_14 : decode cJ0_coder_7d493 14 = .ok (.ireturn, 1) := by decide +kernel
theorem dJ0_isLatin1_aae02_0 : decode cJ0_isLatin1_aae02 0 = .ok (.getstatic 38, 3) := by decide +kernel
theorem dJ0_isLatin1_aae02_3 : decode cJ0_isLatin1_aae02 3 = .ok (.ifCond .eq 14, 3) := by decide +kernel
theorem dJ0_isLatin1_aae02_6 : decode cJ0_isLatin1_aae02 6 = .ok (.aload_n 0, 1) := by decide +kernel
theorem dJ0_isLatin1_aae02_7 : decode cJ0_isLatin1_aae02 7 = .ok (.getfield 15, 3) := by decide +kernel
theorem dJ0_isLatin1_aae02_10 : decode cJ0_isLatin1_aae02 10 = .ok (.ifCond .ne 7, 3) := by decide +kernel
theorem dJ0_isLatin1_aae02_13 : decode cJ0_isLatin1_aae02 13 = .ok (.iconst 1, 1) := by decide +kernel
theorem dJ0_isLatin1_aae02_14 : decode cJ0_isLatin1_aae02 14 = .ok (.goto 4, 3) := by decide +kernel
theorem dJ0_isLatin1_aae02_17 : decode cJ0_isLatin1_aae02 17 = .ok (.iconst 0, 1) := by decide +kernel
theorem dJ0_isLatin1_aae02_18 : decode cJ0_isLatin1_aae02 18 = .ok (.ireturn, 1) := by decide +kernel
theorem dJ0_checkIndex_df160_0 : decode cJ0_checkIndex_df160 0 = .ok (.iload_n 0, 1) := by decide +kernel
theorem dJ0_checkIndex_df160_1 : decode cJ0_checkIndex_df160 1 = .ok (.iload_n 1, 1) := by decide +kernel
theorem dJ0_checkIndex_df160_2 : decode cJ0_checkIndex_df160 2 = .ok (.getstatic 1053, 3) := by decide +kernel
theorem dJ0_checkIndex_df160_5 : decode cJ0_checkIndex_df160 5 = .ok (.invokestatic 1059, 3) := by decide +kernel
theorem dJ0_checkIndex_df160_8 : decode cJ0_checkIndex_df160 8 = .ok (.pop, 1) := by decide +kernel
theorem dJ0_checkIndex_df160_9 : decode cJ0_checkIndex_df160 9 = .ok (.return_, 1) := by decide +kernel
theorem dJ0_checkBoundsBeginEnd_23922_0 : decode cJ0_checkBoundsBeginEnd_23922 0 = .ok (.iload_n 0, 1) := by decide +kernel
theorem dJ0_checkBoundsBeginEnd_23922_1 : decode cJ0_checkBoundsBeginEnd_23922 1 = .ok (.iload_n 1, 1) := by decide +kernel
theorem dJ0_checkBoundsBeginEnd_23922_2 : decode cJ0_checkBoundsBeginEnd_23922 2 = .ok (.iload_n 2, 1) := by decide +kernel
theorem dJ0_checkBoundsBeginEnd_23922_3 : decode cJ0_checkBoundsBeginEnd_23922 3 = .ok (.getstatic 1053, 3) := by decide +kernel
theorem dJ0_checkBoundsBeginEnd_23922_6 : decode cJ0_checkBoundsBeginEnd_23922 6 = .ok (.invokestatic 1062, 3) := by decide +kernel
theorem dJ0_checkBoundsBeginEnd_23922_9 : decode cJ0_checkBoundsBeginEnd_23922 9 = .ok (.pop, 1) := by decide +kernel
theorem dJ0_checkBoundsBeginEnd_23922_10 : decode cJ0_checkBoundsBeginEnd_23922 10 = .ok (.return_, 1) := by decide +kernel
theorem dJ1_charAt_3b067_0 : decode cJ1_charAt_3b067 0 = .ok (.iload_n 1, 1) := by decide +kernel
theorem dJ1_charAt_3b067_1 : decode cJ1_charAt_3b067 1 = .ok (.aload_n 0, 1) := by decide +kernel
theorem dJ1_charAt_3b067_2 : decode cJ1_charAt_3b067 2 = .ok (.arraylength, 1) := by decide +kernel
theorem dJ1_charAt_3b067_3 : decode cJ1_charAt_3b067 3 = .ok (.invokestatic 9, 3) := by decide +kernel
theorem dJ1_charAt_3b067_6 : decode cJ1_charAt_3b067 6 = .ok (.aload_n 0, 1) := by decide +kernel
theorem dJ1_charAt_3b067_7 : decode cJ1_charAt_3b067 7 = .ok (.iload_n 1, 1) := by decide +kernel
theorem dJ1_charAt_3b067_8 : decode cJ1_charAt_3b067 8 = .ok (.baload, 1) := by decide +kernel
theorem dJ1_charAt_3b067_9 : decode cJ1_charAt_3b067 9 = .ok (.sipush 255, 3) := by decide +kernel
theorem dJ1_charAt_3b067_12 : decode cJ1_charAt_3b067 12 = .ok (.iand, 1) := by decide +kernel
theorem dJ1_charAt_3b067_13 : decode cJ1_charAt_3b067 13 = .ok (.i2c, 1) := by decide +kernel
theorem dJ1_charAt_3b067_14 : decode cJ1_charAt_3b067 14 = .ok (.ireturn, 1) := by decide +kernel
theorem dJ1_canEncode_9a6ad_0 : decode cJ1_canEncode_9a6ad 0 = .ok (.iload_n 0, 1) := by decide +kernel
theorem dJ1_canEncode_9a6ad_1 : decode cJ1_canEncode_9a6ad 1 = .ok (.ifCond .lt 14, 3) := by decide +kernel
theorem dJ1_canEncode_9a6ad_4 : decode cJ1_canEncode_9a6ad 4 = .ok (.iload_n 0, 1) := by decide +kernel
theorem dJ1_canEncode_9a6ad_5 : decode cJ1_canEncode_9a6ad 5 = .ok (.sipush 255, 3) := by decide +kernel
theorem dJ1_canEncode_9a6ad_8 : decode cJ1_canEncode_9a6ad 8 = .ok (.if_icmp .gt 7, 3) := by decide +kernel
theorem dJ1_canEncode_9a6ad_11 : decode cJ1_canEncode_9a6ad 11 = .ok (.iconst 1, 1) := by decide +kernel
theorem dJ1_canEncode_9a6ad_12 : decode cJ1_canEncode_9a6ad 12 = .ok (.goto 4, 3) := by decide +kernel
theorem dJ1_canEncode_9a6ad_15 : decode cJ1_canEncode_9a6ad 15 = .ok (.iconst 0, 1) := by decide +kernel
theorem dJ1_canEncode_9a6ad_16 : decode cJ1_canEncode_9a6ad 16 = .ok (.ireturn, 1) := by decide +kernel
theorem dJ1_indexOf_4cfef_0 : decode cJ1_indexOf_4cfef 0 = .ok (.iload_n 1, 1) := by decide +kernel
theorem dJ1_indexOf_4cfef_1 : decode cJ1_indexOf_4cfef 1 = .ok (.invokestatic 88, 3) := by decide +kernel
theorem dJ1_indexOf_4cfef_4 : decode cJ1_indexOf_4cfef 4 = .ok (.ifCond .ne 5, 3) := by decide +kernel
theorem dJ1_indexOf_4cfef_7 : decode cJ1_indexOf_4cfef 7 = .ok (.iconst (-1), 1) := by decide +kernel
theorem dJ1_indexOf_4cfef_8 : decode cJ1_indexOf_4cfef 8 = .ok (.ireturn, 1) := by decide +kernel
theorem dJ1_indexOf_4cfef_9 : decode cJ1_indexOf_4cfef 9 = .ok (.iload_n 2, 1) := by decide +kernel
theorem dJ1_indexOf_4cfef_10 : decode cJ1_indexOf_4cfef 10 = .ok (.iconst 0, 1) := by decide +kernel
theorem dJ1_indexOf_4cfef_11 : decode cJ1_indexOf_4cfef 11 = .ok (.invokestatic 92, 3) := by decide +kernel
theorem dJ1_indexOf_4cfef_14 : decode cJ1_indexOf_4cfef 14 = .ok (.istore_n 2, 1) := by decide +kernel
theorem dJ1_indexOf_4cfef_15 : decode cJ1_indexOf_4cfef 15 = .ok (.iload_n 3, 1) := by decide +kernel
theorem dJ1_indexOf_4cfef_16 : decode cJ1_indexOf_4cfef 16 = .ok (.aload_n 0, 1) := by decide +kernel
theorem dJ1_indexOf_4cfef_17 : decode cJ1_indexOf_4cfef 17 = .ok (.arraylength, 1) := by decide +kernel
theorem dJ1_indexOf_4cfef_18 : decode cJ1_indexOf_4cfef 18 = .ok (.invokestatic 38, 3) := by decide +kernel
theorem dJ1_indexOf_4cfef_21 : decode cJ1_indexOf_4cfef 21 = .ok (.istore_n 3, 1) := by decide +kernel
theorem dJ1_indexOf_4cfef_22 : decode cJ1_indexOf_4cfef 22 = .ok (.iload_n 2, 1) := by decide +kernel
theorem dJ1_indexOf_4cfef_23 : decode cJ1_indexOf_4cfef 23 = .ok (.iload_n 3, 1) := by decide +kernel
theorem dJ1_indexOf_4cfef_24 : decode cJ1_indexOf_4cfef 24 = .ok (.if_icmp .lt 5, 3) := by decide +kernel
theorem dJ1_indexOf_4cfef_27 : decode cJ1_indexOf_4cfef 27 = .ok (.iconst (-1), 1) := by decide +kernel
theorem dJ1_indexOf_4cfef_28 : decode cJ1_indexOf_4cfef 28 = .ok (.ireturn, 1) := by decide +kernel
theorem dJ1_indexOf_4cfef_29 : decode cJ1_indexOf_4cfef 29 = .ok (.aload_n 0, 1) := by decide +kernel
theorem dJ1_indexOf_4cfef_30 : decode cJ1_indexOf_4cfef 30 = .ok (.iload_n 1, 1) := by decide +kernel
theorem dJ1_indexOf_4cfef_31 : decode cJ1_indexOf_4cfef 31 = .ok (.iload_n 2, 1) := by decide +kernel
theorem dJ1_indexOf_4cfef_32 : decode cJ1_indexOf_4cfef 32 = .ok (.iload_n 3, 1) := by decide +kernel
theorem dJ1_indexOf_4cfef_33 : decode cJ1_indexOf_4cfef 33 = .ok (.invokestatic 95, 3) := by decide +kernel
theorem dJ1_indexOf_4cfef_36 : decode cJ1_indexOf_4cfef 36 = .ok (.ireturn, 1) := by decide +kernel
theorem dJ1_indexOfChar_4cfef_0 : decode cJ1_indexOfChar_4cfef 0 = .ok (.iload_n 1, 1) := by decide +kernel
theorem dJ1_indexOfChar_4cfef_1 : decode cJ1_indexOfChar_4cfef 1 = .ok (.i2b, 1) := by decide +kernel
theorem dJ1_indexOfChar_4cfef_2 : decode cJ1_indexOfChar_4cfef 2 = .ok (.istore 4, 2) := by decide +kernel
theorem dJ1_indexOfChar_4cfef_4 : decode cJ1_indexOfChar_4cfef 4 = .ok (.iload_n 2, 1) := by decide +kernel
theorem dJ1_indexOfChar_4cfef_5 : decode cJ1_indexOfChar_4cfef 5 = .ok (.istore 5, 2) := by decide +kernel
theorem dJ1_indexOfChar_4cfef_7 : decode cJ1_indexOfChar_4cfef 7 = .ok (.iload 5, 2) := by decide +kernel
theorem dJ1_indexOfChar_4cfef_9 : decode cJ1_indexOfChar_4cfef 9 = .ok (.iload_n 3, 1) := by decide +kernel
theorem dJ1_indexOfChar_4cfef_10 : decode cJ1_indexOfChar_4cfef 10 = .ok (.if_icmp .ge 21, 3) := by decide +kernel
theorem dJ1_indexOfChar_4cfef_13 : decode cJ1_indexOfChar_4cfef 13 = .ok (.aload_n 0, 1) := by decide +kernel
theorem dJ1_indexOfChar_4cfef_14 : decode cJ1_indexOfChar_4cfef 14 = .ok (.iload 5, 2) := by decide +kernel
theorem dJ1_indexOfChar_4cfef_16 : decode cJ1_indexOfChar_4cfef 16 = .ok (.baload, 1) := by decide +kernel
theorem dJ1_indexOfChar_4cfef_17 : decode cJ1_indexOfChar_4cfef 17 = .ok (.iload 4, 2) := by decide +kernel
theorem dJ1_indexOfChar_4cfef_19 : decode cJ1_indexOfChar_4cfef 19 = .ok (.if_icmp .ne 6, 3) := by decide +kernel
theorem dJ1_indexOfChar_4cfef_22 : decode cJ1_indexOfChar_4cfef 22 = .ok (.iload 5, 2) := by decide +kernel
theorem dJ1_indexOfChar_4cfef_24 : decode cJ1_indexOfChar_4cfef 24 = .ok (.ireturn, 1) := by decide +kernel
theorem dJ1_indexOfChar_4cfef_25 : decode cJ1_indexOfChar_4cfef 25 = .ok (.iinc 5 1, 3) := by decide +kernel
theorem dJ1_indexOfChar_4cfef_28 : decode cJ1_indexOfChar_4cfef 28 = .ok (.goto (-21), 3) := by decide +kernel
theorem dJ1_indexOfChar_4cfef_31 : decode cJ1_indexOfChar_4cfef 31 = .ok (.iconst (-1), 1) := by decide +kernel
theorem dJ1_indexOfChar_4cfef_32 : decode cJ1_indexOfChar_4cfef 32 = .ok (.ireturn, 1) := by decide +kernel
theorem dJ2_getChar_3b067_0 : decode cJ2_getChar_3b067 0 = .ok (.getstatic 44, 3) := by decide +kernel
theorem dJ2_getChar_3b067_3 : decode cJ2_getChar_3b067 3 = .ok (.ifCond .ne 25, 3) := by decide +kernel
theorem dJ2_getChar_3b067_6 : decode cJ2_getChar_3b067 6 = .ok (.iload_n 1, 1) := by decide +kernel
theorem dJ2_getChar_3b067_7 : decode cJ2_getChar_3b067 7 = .ok (.ifCond .lt 11, 3) := by decide +kernel
theorem dJ2_getChar_3b067_10 : decode cJ2_getChar_3b067 10 = .ok (.iload_n 1, 1) := by decide +kernel
theorem dJ2_getChar_3b067_11 : decode cJ2_getChar_3b067 11 = .ok (.aload_n 0, 1) := by decide +kernel
theorem dJ2_getChar_3b067_12 : decode cJ2_getChar_3b067 12 = .ok (.invokestatic 48, 3) := by decide +kernel
theorem dJ2_getChar_3b067_15 : decode cJ2_getChar_3b067 15 = .ok (.if_icmp .lt 13, 3) := by decide +kernel
theorem dJ2_getChar_3b067_18 : decode cJ2_getChar_3b067 18 = .ok (.new 52, 3) := by decide +kernel
theorem dJ2_getChar_3b067_21 : decode cJ2_getChar_3b067 21 = .ok (.dup, 1) := by decide +kernel
theorem dJ2_getChar_3b067_22 : decode cJ2_getChar_3b067 22 = .ok (.ldc 54, 2) := by decide +kernel
theorem dJ2_getChar_3b067_24 : decode cJ2_getChar_3b067 24 = .ok (.invokespecial 56, 3) := by decide +kernel
theorem dJ2_getChar_3b067_27 : decode cJ2_getChar_3b067 27 = .ok (.athrow, 1) := by decide +kernel
theorem dJ2_getChar_3b067_28 : decode cJ2_getChar_3b067 28 = .ok (.iload_n 1, 1) := by decide +kernel
theorem dJ2_getChar_3b067_29 : decode cJ2_getChar_3b067 29 = .ok (.iconst 1, 1) := by decide +kernel
theorem dJ2_getChar_3b067_30 : decode cJ2_getChar_3b067 30 = .ok (.ishl, 1) := by decide +kernel
theorem dJ2_getChar_3b067_31 : decode cJ2_getChar_3b067 31 = .ok (.istore_n 1, 1) := by decide +kernel
theorem dJ2_getChar_3b067_32 : decode cJ2_getChar_3b067 32 = .ok (.aload_n 0, 1) := by decide +kernel
theorem dJ2_getChar_3b067_33 : decode cJ2_getChar_3b067 33 = .ok (.iload_n 1, 1) := by decide +kernel
theorem dJ2_getChar_3b067_34 : decode cJ2_getChar_3b067 34 = .ok (.iinc 1 1, 3) := by decide +kernel
theorem dJ2_getChar_3b067_37 : decode cJ2_getChar_3b067 37 = .ok (.baload, 1) := by decide +kernel
theorem dJ2_getChar_3b067_38 : decode cJ2_getChar_3b067 38 = .ok (.sipush 255, 3) := by decide +kernel
theorem dJ2_getChar_3b067_41 : decode cJ2_getChar_3b067 41 = .ok (.iand, 1) := by decide +kernel
theorem dJ2_getChar_3b067_42 : decode cJ2_getChar_3b067 42 = .ok (.getstatic 59, 3) := by decide +kernel
theorem dJ2_getChar_3b067_45 : decode cJ2_getChar_3b067 45 = .ok (.ishl, 1) := by decide +kernel
theorem dJ2_getChar_3b067_46 : decode cJ2_getChar_3b067 46 = .ok (.aload_n 0, 1) := by decide +kernel
theorem dJ2_getChar_3b067_47 : decode cJ2_getChar_3b067 47 = .ok (.iload_n 1, 1) := by decide +kernel
theorem dJ2_getChar_3b067_48 : decode cJ2_getChar_3b067 48 = .ok (.baload, 1) := by decide +kernel
theorem dJ2_getChar_3b067_49 : decode cJ2_getChar_3b067 49 = .ok (.sipush 255, 3) := by decide +kernel
theorem dJ2_getChar_3b067_52 : decode cJ2_getChar_3b067 52 = .ok (.iand, 1) := by decide +kernel
theorem dJ2_getChar_3b067_53 : decode cJ2_getChar_3b067 53 = .ok (.getstatic 63, 3) := by decide +kernel
theorem dJ2_getChar_3b067_56 : decode cJ2_getChar_3b067 56 = .ok (.ishl, 1) := by decide +kernel
theorem dJ2_getChar_3b067_57 : decode cJ2_getChar_3b067 57 = .ok (.ior, 1) := by decide +kernel
theorem dJ2_getChar_3b067_58 : decode cJ2_getChar_3b067 58 = .ok (.i2c, 1) := by decide +kernel
theorem dJ2_getChar_3b067_59 : decode cJ2_getChar_3b067 59 = .ok (.ireturn, 1) := by decide +kernel
theorem dJ2_length_9d52b_0 : decode cJ2_length_9d52b 0 = .ok (.aload_n 0, 1) := by decide +kernel
theorem dJ2_length_9d52b_1 : decode cJ2_length_9d52b 1 = .ok (.arraylength, 1) := by decide +kernel
theorem dJ2_length_9d52b_2 : decode cJ2_length_9d52b 2 = .ok (.iconst 1, 1) := by decide +kernel
theorem dJ2_length_9d52b_3 : decode cJ2_length_9d52b 3 = .ok (.ishr, 1) := by decide +kernel
theorem dJ2_length_9d52b_4 : decode cJ2_length_9d52b 4 = .ok (.ireturn, 1) := by decide +kernel
theorem dJ2_indexOf_4cfef_0 : decode cJ2_indexOf_4cfef 0 = .ok (.iload_n 2, 1) := by decide +kernel
theorem dJ2_indexOf_4cfef_1 : decode cJ2_indexOf_4cfef 1 = .ok (.iconst 0, 1) := by decide +kernel
theorem dJ2_indexOf_4cfef_2 : decode cJ2_indexOf_4cfef 2 = .ok (.invokestatic 224, 3) := by decide +kernel
theorem dJ2_indexOf_4cfef_5 : decode cJ2_indexOf_4cfef 5 = .ok (.istore_n 2, 1) := by decide +kernel
theorem dJ2_indexOf_4cfef_6 : decode cJ2_indexOf_4cfef 6 = .ok (.iload_n 3, 1) := by decide +kernel
theorem dJ2_indexOf_4cfef_7 : decode cJ2_indexOf_4cfef 7 = .ok (.aload_n 0, 1) := by decide +kernel
theorem dJ2_indexOf_4cfef_8 : decode cJ2_indexOf_4cfef 8 = .ok (.arraylength, 1) := by decide +kernel
theorem dJ2_indexOf_4cfef_9 : decode cJ2_indexOf_4cfef 9 = .ok (.iconst 1, 1) := by decide +kernel
theorem dJ2_indexOf_4cfef_10 : decode cJ2_indexOf_4cfef 10 = .ok (.ishr, 1) := by decide +kernel
theorem dJ2_indexOf_4cfef_11 : decode cJ2_indexOf_4cfef 11 = .ok (.invokestatic 183, 3) := by decide +kernel
theorem dJ2_indexOf_4cfef_14 : decode cJ2_indexOf_4cfef 14 = .ok (.istore_n 3, 1) := by decide +kernel
theorem dJ2_indexOf_4cfef_15 : decode cJ2_indexOf_4cfef 15 = .ok (.iload_n 2, 1) := by decide +kernel
theorem dJ2_indexOf_4cfef_16 : decode cJ2_indexOf_4cfef 16 = .ok (.iload_n 3, 1) := by decide +kernel
theorem dJ2_indexOf_4cfef_17 : decode cJ2_indexOf_4cfef 17 = .ok (.if_icmp .lt 5, 3) := by decide +kernel
theorem dJ2_indexOf_4cfef_20 : decode cJ2_indexOf_4cfef 20 = .ok (.iconst (-1), 1) := by decide +kernel
theorem dJ2_indexOf_4cfef_21 : decode cJ2_indexOf_4cfef 21 = .ok (.ireturn, 1) := by decide +kernel
theorem dJ2_indexOf_4cfef_22 : decode cJ2_indexOf_4cfef 22 = .ok (.iload_n 1, 1) := by decide +kernel
theorem dJ2_indexOf_4cfef_23 : decode cJ2_indexOf_4cfef 23 = .ok (.ldc 227, 2) := by decide +kernel
theorem dJ2_indexOf_4cfef_25 : decode cJ2_indexOf_4cfef 25 = .ok (.if_icmp .ge 11, 3) := by decide +kernel
theorem dJ2_indexOf_4cfef_28 : decode cJ2_indexOf_4cfef 28 = .ok (.aload_n 0, 1) := by decide +kernel
theorem dJ2_indexOf_4cfef_29 : decode cJ2_indexOf_4cfef 29 = .ok (.iload_n 1, 1) := by decide +kernel
theorem dJ2_indexOf_4cfef_30 : decode cJ2_indexOf_4cfef 30 = .ok (.iload_n 2, 1) := by decide +kernel
theorem dJ2_indexOf_4cfef_31 : decode cJ2_indexOf_4cfef 31 = .ok (.iload_n 3, 1) := by decide +kernel
theorem dJ2_indexOf_4cfef_32 : decode cJ2_indexOf_4cfef 32 = .ok (.invokestatic 228, 3) := by decide +kernel
theorem dJ2_indexOf_4cfef_35 : decode cJ2_indexOf_4cfef 35 = .ok (.ireturn, 1) := by decide +kernel
theorem dJ2_indexOf_4cfef_36 : decode cJ2_indexOf_4cfef 36 = .ok (.aload_n 0, 1) := by decide +kernel
theorem dJ2_indexOf_4cfef_37 : decode cJ2_indexOf_4cfef 37 = .ok (.iload_n 1, 1) := by decide +kernel
theorem dJ2_indexOf_4cfef_38 : decode cJ2_indexOf_4cfef 38 = .ok (.iload_n 2, 1) := by decide +kernel
theorem dJ2_indexOf_4cfef_39 : decode cJ2_indexOf_4cfef 39 = .ok (.iload_n 3, 1) := by decide +kernel
theorem dJ2_indexOf_4cfef_40 : decode cJ2_indexOf_4cfef 40 = .ok (.invokestatic 232, 3) := by decide +kernel
theorem dJ2_indexOf_4cfef_43 : decode cJ2_indexOf_4cfef 43 = .ok (.ireturn, 1) := by decide +kernel
theorem dJ2_indexOfChar_4cfef_0 : decode cJ2_indexOfChar_4cfef 0 = .ok (.iload_n 2, 1) := by decide +kernel
theorem dJ2_indexOfChar_4cfef_1 : decode cJ2_indexOfChar_4cfef 1 = .ok (.iload_n 3, 1) := by decide +kernel
theorem dJ2_indexOfChar_4cfef_2 : decode cJ2_indexOfChar_4cfef 2 = .ok (.aload_n 0, 1) := by decide +kernel
theorem dJ2_indexOfChar_4cfef_3 : decode cJ2_indexOfChar_4cfef 3 = .ok (.invokestatic 96, 3) := by decide +kernel
theorem dJ2_indexOfChar_4cfef_6 : decode cJ2_indexOfChar_4cfef 6 = .ok (.aload_n 0, 1) := by decide +kernel
theorem dJ2_indexOfChar_4cfef_7 : decode cJ2_indexOfChar_4cfef 7 = .ok (.iload_n 1, 1) := by decide +kernel
theorem dJ2_indexOfChar_4cfef_8 : decode cJ2_indexOfChar_4cfef 8 = .ok (.iload_n 2, 1) := by decide +kernel
theorem dJ2_indexOfChar_4cfef_9 : decode cJ2_indexOfChar_4cfef 9 = .ok (.iload_n 3, 1) := by decide +kernel
theorem dJ2_indexOfChar_4cfef_10 : decode cJ2_indexOfChar_4cfef 10 = .ok (.invokestatic 244, 3) := by decide +kernel
theorem dJ2_indexOfChar_4cfef_13 : decode cJ2_indexOfChar_4cfef 13 = .ok (.ireturn, 1) := by decide +kernel
theorem dJ2_indexOfCharUnsafe_4cfef_0 : decode cJ2_indexOfCharUnsafe_4cfef 0 = .ok (.iload_n 2, 1) := by decide +kernel
theorem dJ2_indexOfCharUnsafe_4cfef_1 : decode cJ2_indexOfCharUnsafe_4cfef 1 = .ok (.istore 4, 2) := by decide +kernel
theorem dJ2_indexOfCharUnsafe_4cfef_3 : decode cJ2_indexOfCharUnsafe_4cfef 3 = .ok (.iload 4, 2) := by decide +kernel
theorem dJ2_indexOfCharUnsafe_4cfef_5 : decode cJ2_indexOfCharUnsafe_4cfef 5 = .ok (.iload_n 3, 1) := by decide +kernel
theorem dJ2_indexOfCharUnsafe_4cfef_6 : decode cJ2_indexOfCharUnsafe_4cfef 6 = .ok (.if_icmp .ge 22, 3) := by decide +kernel
theorem dJ2_indexOfCharUnsafe_4cfef_9 : decode cJ2_indexOfCharUnsafe_4cfef 9 = .ok (.aload_n 0, 1) := by decide +kernel
theorem dJ2_indexOfCharUnsafe_4cfef_10 : decode cJ2_indexOfCharUnsafe_4cfef 10 = .ok (.iload 4, 2) := by decide +kernel
theorem dJ2_indexOfCharUnsafe_4cfef_12 : decode cJ2_indexOfCharUnsafe_4cfef 12 = .ok (.invokestatic 71, 3) := by decide +kernel
theorem dJ2_indexOfCharUnsafe_4cfef_15 : decode cJ2_indexOfCharUnsafe_4cfef 15 = .ok (.iload_n 1, 1) := by decide +kernel
theorem dJ2_indexOfCharUnsafe_4cfef_16 : decode cJ2_indexOfCharUnsafe_4cfef 16 = .ok (.if_icmp .ne 6, 3) := by decide +kernel
theorem dJ2_indexOfCharUnsafe_4cfef_19 : decode cJ2_indexOfCharUnsafe_4cfef 19 = .ok (.iload 4, 2) := by decide +kernel
theorem dJ2_indexOfCharUnsafe_4cfef_21 : decode cJ2_indexOfCharUnsafe_4cfef 21 = .ok (.ireturn, 1) := by decide +kernel
theorem dJ2_indexOfCharUnsafe_4cfef_22 : decode cJ2_indexOfCharUnsafe_4cfef 22 = .ok (.iinc 4 1, 3) := by decide +kernel
theorem dJ2_indexOfCharUnsafe_4cfef_25 : decode cJ2_indexOfCharUnsafe_4cfef 25 = .ok (.goto (-22), 3) := by decide +kernel
theorem dJ2_indexOfCharUnsafe_4cfef_28 : decode cJ2_indexOfCharUnsafe_4cfef 28 = .ok (.iconst (-1), 1) := by decide +kernel
theorem dJ2_indexOfCharUnsafe_4cfef_29 : decode cJ2_indexOfCharUnsafe_4cfef 29 = .ok (.ireturn, 1) := by decide +kernel
theorem dJ2_indexOfSupplementary_4cfef_0 : decode cJ2_indexOfSupplementary_4cfef 0 = .ok (.iload_n 1, 1) := by decide +kernel
theorem dJ2_indexOfSupplementary_4cfef_1 : decode cJ2_indexOfSupplementary_4cfef 1 = .ok (.invokestatic 164, 3) := by decide +kernel
theorem dJ2_indexOfSupplementary_4cfef_4 : decode cJ2_indexOfSupplementary_4cfef 4 = .ok (.ifCond .eq 65, 3) := by decide +kernel
theorem dJ2_indexOfSupplementary_4cfef_7 : decode cJ2_indexOfSupplementary_4cfef 7 = .ok (.iload_n 1, 1) := by decide +kernel
theorem dJ2_indexOfSupplementary_4cfef_8 : decode cJ2_indexOfSupplementary_4cfef 8 = .ok (.invokestatic 157, 3) := by decide +kernel
theorem dJ2_indexOfSupplementary_4cfef_11 : decode cJ2_indexOfSupplementary_4cfef 11 = .ok (.istore 4, 2) := by decide +kernel
theorem dJ2_indexOfSupplementary_4cfef_13 : decode cJ2_indexOfSupplementary_4cfef 13 = .ok (.iload_n 1, 1) := by decide +kernel
theorem dJ2_indexOfSupplementary_4cfef_14 : decode cJ2_indexOfSupplementary_4cfef 14 = .ok (.invokestatic 161, 3) := by decide +kernel
theorem dJ2_indexOfSupplementary_4cfef_17 : decode cJ2_indexOfSupplementary_4cfef 17 = .ok (.istore 5, 2) := by decide +kernel
theorem dJ2_indexOfSupplementary_4cfef_19 : decode cJ2_indexOfSupplementary_4cfef 19 = .ok (.iload_n 2, 1) := by decide +kernel
theorem dJ2_indexOfSupplementary_4cfef_20 : decode cJ2_indexOfSupplementary_4cfef 20 = .ok (.iload_n 3, 1) := by decide +kernel
theorem dJ2_indexOfSupplementary_4cfef_21 : decode cJ2_indexOfSupplementary_4cfef 21 = .ok (.aload_n 0, 1) := by decide +kernel
theorem dJ2_indexOfSupplementary_4cfef_22 : decode cJ2_indexOfSupplementary_4cfef 22 = .ok (.invokestatic 96, 3) := by decide +kernel
theorem dJ2_indexOfSupplementary_4cfef_25 : decode cJ2_indexOfSupplementary_4cfef 25 = .ok (.iload_n 2, 1) := by decide +kernel
theorem dJ2_indexOfSupplementary_4cfef_26 : decode cJ2_indexOfSupplementary_4cfef 26 = .ok (.istore 6, 2) := by decide +kernel
theorem dJ2_indexOfSupplementary_4cfef_28 : decode cJ2_indexOfSupplementary_4cfef 28 = .ok (.iload 6, 2) := by decide +kernel
theorem dJ2_indexOfSupplementary_4cfef_30 : decode cJ2_indexOfSupplementary_4cfef 30 = .ok (.iload_n 3, 1) := by decide +kernel
theorem dJ2_indexOfSupplementary_4cfef_31 : decode cJ2_indexOfSupplementary_4cfef 31 = .ok (.iconst 1, 1) := by decide +kernel
theorem dJ2_indexOfSupplementary_4cfef_32 : decode cJ2_indexOfSupplementary_4cfef 32 = .ok (.isub, 1) := by decide +kernel
theorem dJ2_indexOfSupplementary_4cfef_33 : decode cJ2_indexOfSupplementary_4cfef 33 = .ok (.if_icmp .ge 36, 3) := by decide +kernel
theorem dJ2_indexOfSupplementary_4cfef_36 : decode cJ2_indexOfSupplementary_4cfef 36 = .ok (.aload_n 0, 1) := by decide +kernel
theorem dJ2_indexOfSupplementary_4cfef_37 : decode cJ2_indexOfSupplementary_4cfef 37 = .ok (.iload 6, 2) := by decide +kernel
theorem dJ2_indexOfSupplementary_4cfef_39 : decode cJ2_indexOfSupplementary_4cfef 39 = .ok (.invokestatic 71, 3) := by decide +kernel
theorem dJ2_indexOfSupplementary_4cfef_42 : decode cJ2_indexOfSupplementary_4cfef 42 = .ok (.iload 4, 2) := by decide +kernel
theorem dJ2_indexOfSupplementary_4cfef_44 : decode cJ2_indexOfSupplementary_4cfef 44 = .ok (.if_icmp .ne 19, 3) := by decide +kernel
theorem dJ2_indexOfSupplementary_4cfef_47 : decode cJ2_indexOfSupplementary_4cfef 47 = .ok (.aload_n 0, 1) := by decide +kernel
theorem dJ2_indexOfSupplementary_4cfef_48 : decode cJ2_indexOfSupplementary_4cfef 48 = .ok (.iload 6, 2) := by decide +kernel
theorem dJ2_indexOfSupplementary_4cfef_50 : decode cJ2_indexOfSupplementary_4cfef 50 = .ok (.iconst 1, 1) := by decide +kernel
theorem dJ2_indexOfSupplementary_4cfef_51 : decode cJ2_indexOfSupplementary_4cfef 51 = .ok (.iadd, 1) := by decide +kernel
theorem dJ2_indexOfSupplementary_4cfef_52 : decode cJ2_indexOfSupplementary_4cfef 52 = .ok (.invokestatic 71, 3) := by decide +kernel
theorem dJ2_indexOfSupplementary_4cfef_55 : decode cJ2_indexOfSupplementary_4cfef 55 = .ok (.iload 5, 2) := by decide +kernel
theorem dJ2_indexOfSupplementary_4cfef_57 : decode cJ2_indexOfSupplementary_4cfef 57 = .ok (.if_icmp .ne 6, 3) := by decide +kernel
theorem dJ2_indexOfSupplementary_4cfef_60 : decode cJ2_indexOfSupplementary_4cfef 60 = .ok (.iload 6, 2) := by decide +kernel
theorem dJ2_indexOfSupplementary_4cfef_62 : decode cJ2_indexOfSupplementary_4cfef 62 = .ok (.ireturn, 1) := by decide +kernel
theorem dJ2_indexOfSupplementary_4cfef_63 : decode cJ2_indexOfSupplementary_4cfef 63 = .ok (.iinc 6 1, 3) := by decide +kernel
theorem dJ2_indexOfSupplementary_4cfef_66 : decode cJ2_indexOfSupplementary_4cfef 66 = .ok (.goto (-38), 3) := by decide +kernel
theorem dJ2_indexOfSupplementary_4cfef_69 : decode cJ2_indexOfSupplementary_4cfef 69 = .ok (.iconst (-1), 1) := by decide +kernel
theorem dJ2_indexOfSupplementary_4cfef_70 : decode cJ2_indexOfSupplementary_4cfef 70 = .ok (.ireturn, 1) := by decide +kernel
theorem dJ2_charAt_3b067_0 : decode cJ2_charAt_3b067 0 = .ok (.iload_n 1, 1) := by decide +kernel
theorem dJ2_charAt_3b067_1 : decode cJ2_charAt_3b067 1 = .ok (.aload_n 0, 1) := by decide +kernel
theorem dJ2_charAt_3b067_2 : decode cJ2_charAt_3b067 2 = .ok (.invokestatic 67, 3) := by decide +kernel
theorem dJ2_charAt_3b067_5 : decode cJ2_charAt_3b067 5 = .ok (.aload_n 0, 1) := by decide +kernel
theorem dJ2_charAt_3b067_6 : decode cJ2_charAt_3b067 6 = .ok (.iload_n 1, 1) := by decide +kernel
theorem dJ2_charAt_3b067_7 : decode cJ2_charAt_3b067 7 = .ok (.invokestatic 71, 3) := by decide +kernel
theorem dJ2_charAt_3b067_10 : decode cJ2_charAt_3b067 10 = .ok (.ireturn, 1) := by decide +kernel
theorem dJ2_checkIndex_2214a_0 : decode cJ2_checkIndex_2214a 0 = .ok (.iload_n 0, 1) := by decide +kernel
theorem dJ2_checkIndex_2214a_1 : decode cJ2_checkIndex_2214a 1 = .ok (.aload_n 1, 1) := by decide +kernel
theorem dJ2_checkIndex_2214a_2 : decode cJ2_checkIndex_2214a 2 = .ok (.invokestatic 48, 3) := by decide +kernel
theorem dJ2_checkIndex_2214a_5 : decode cJ2_checkIndex_2214a 5 = .ok (.invokestatic 414, 3) := by decide +kernel
theorem dJ2_checkIndex_2214a_8 : decode cJ2_checkIndex_2214a 8 = .ok (.return_, 1) := by decide +kernel
theorem dJ2_checkBoundsBeginEnd_d044e_0 : decode cJ2_checkBoundsBeginEnd_d044e 0 = .ok (.iload_n 0, 1) := by decide +kernel
theorem dJ2_checkBoundsBeginEnd_d044e_1 : decode cJ2_checkBoundsBeginEnd_d044e 1 = .ok (.iload_n 1, 1) := by decide +kernel
theorem dJ2_checkBoundsBeginEnd_d044e_2 : decode cJ2_checkBoundsBeginEnd_d044e 2 = .ok (.aload_n 2, 1) := by decide +kernel
theorem dJ2_checkBoundsBeginEnd_d044e_3 : decode cJ2_checkBoundsBeginEnd_d044e 3 = .ok (.invokestatic 48, 3) := by decide +kernel
theorem dJ2_checkBoundsBeginEnd_d044e_6 : decode cJ2_checkBoundsBeginEnd_d044e 6 = .ok (.invokestatic 241, 3) := by decide +kernel
theorem dJ2_checkBoundsBeginEnd_d044e_9 : decode cJ2_checkBoundsBeginEnd_d044e 9 = .ok (.return_, 1) := by decide +kernel
theorem dJ3_checkIndex_8e157_0 : decode cJ3_checkIndex_8e157 0 = .ok (.iload_n 0, 1) := by decide +kernel
theorem dJ3_checkIndex_8e157_1 : decode cJ3_checkIndex_8e157 1 = .ok (.ifCond .lt 8, 3) := by decide +kernel
theorem dJ3_checkIndex_8e157_4 : decode cJ3_checkIndex_8e157 4 = .ok (.iload_n 0, 1) := by decide +kernel
theorem dJ3_checkIndex_8e157_5 : decode cJ3_checkIndex_8e157 5 = .ok (.iload_n 1, 1) := by decide +kernel
theorem dJ3_checkIndex_8e157_6 : decode cJ3_checkIndex_8e157 6 = .ok (.if_icmp .lt 10, 3) := by decide +kernel
theorem dJ3_checkIndex_8e157_9 : decode cJ3_checkIndex_8e157 9 = .ok (.aload_n 2, 1) := by decide +kernel
theorem dJ3_checkIndex_8e157_10 : decode cJ3_checkIndex_8e157 10 = .ok (.iload_n 0, 1) := by decide +kernel
theorem dJ3_checkIndex_8e157_11 : decode cJ3_checkIndex_8e157 11 = .ok (.iload_n 1, 1) := by decide +kernel
theorem dJ3_checkIndex_8e157_12 : decode cJ3_checkIndex_8e157 12 = .ok (.invokestatic 95, 3) := by decide +kernel
theorem dJ3_checkIndex_8e157_15 : decode cJ3_checkIndex_8e157 15 = .ok (.athrow, 1) := by decide +kernel
theorem dJ3_checkIndex_8e157_16 : decode cJ3_checkIndex_8e157 16 = .ok (.iload_n 0, 1) := by decide +kernel
theorem dJ3_checkIndex_8e157_17 : decode cJ3_checkIndex_8e157 17 = .ok (.ireturn, 1) := by decide +kernel
theorem dJ3_checkFromToIndex_8c36e_0 : decode cJ3_checkFromToIndex_8c36e 0 = .ok (.iload_n 0, 1) := by decide +kernel
theorem dJ3_checkFromToIndex_8c36e_1 : decode cJ3_checkFromToIndex_8c36e 1 = .ok (.ifCond .lt 13, 3) := by decide +kernel
theorem dJ3_checkFromToIndex_8c36e_4 : decode cJ3_checkFromToIndex_8c36e 4 = .ok (.iload_n 0, 1) := by decide +kernel
theorem dJ3_checkFromToIndex_8c36e_5 : decode cJ3_checkFromToIndex_8c36e 5 = .ok (.iload_n 1, 1) := by decide +kernel
theorem dJ3_checkFromToIndex_8c36e_6 : decode cJ3_checkFromToIndex_8c36e 6 = .ok (.if_icmp .gt 8, 3) := by decide +kernel
theorem dJ3_checkFromToIndex_8c36e_9 : decode cJ3_checkFromToIndex_8c36e 9 = .ok (.iload_n 1, 1) := by decide +kernel
theorem dJ3_checkFromToIndex_8c36e_10 : decode cJ3_checkFromToIndex_8c36e 10 = .ok (.iload_n 2, 1) := by decide +kernel
theorem dJ3_checkFromToIndex_8c36e_11 : decode cJ3_checkFromToIndex_8c36e 11 = .ok (.if_icmp .le 11, 3) := by decide +kernel
theorem dJ3_checkFromToIndex_8c36e_14 : decode cJ3_checkFromToIndex_8c36e 14 = .ok (.aload_n 3, 1) := by decide +kernel
theorem dJ3_checkFromToIndex_8c36e_15 : decode cJ3_checkFromToIndex_8c36e 15 = .ok (.iload_n 0, 1) := by decide +kernel
theorem dJ3_checkFromToIndex_8c36e_16 : decode cJ3_checkFromToIndex_8c36e 16 = .ok (.iload_n 1, 1) := by decide +kernel
theorem dJ3_checkFromToIndex_8c36e_17 : decode cJ3_checkFromToIndex_8c36e 17 = .ok (.iload_n 2, 1) := by decide +kernel
theorem dJ3_checkFromToIndex_8c36e_18 : decode cJ3_checkFromToIndex_8c36e 18 = .ok (.invokestatic 99, 3) := by decide +kernel
theorem dJ3_checkFromToIndex_8c36e_21 : decode cJ3_checkFromToIndex_8c36e 21 = .ok (.athrow, 1) := by decide +kernel
theorem dJ3_checkFromToIndex_8c36e_22 : decode cJ3_checkFromToIndex_8c36e 22 = .ok (.iload_n 0, 1) := by decide +kernel
theorem dJ3_checkFromToIndex_8c36e_23 : decode cJ3_checkFromToIndex_8c36e 23 = .ok (.ireturn, 1) := by decide +kernel
theorem dL_show_0 : decode cL_show 0 = .ok (.aload_n 3, 1) := by decide +kernel
theorem dL_show_1 : decode cL_show 1 = .ok (.iconst 0, 1) := by decide +kernel
theorem dL_show_2 : decode cL_show 2 = .ok (.aload_n 0, 1) := by decide +kernel
theorem dL_show_3 : decode cL_show 3 = .ok (.iload_n 1, 1) := by decide +kernel
theorem dL_show_4 : decode cL_show 4 = .ok (.iload_n 2, 1) := by decide +kernel
theorem dL_show_5 : decode cL_show 5 = .ok (.invokevirtual 7, 3) := by decide +kernel
theorem dL_show_8 : decode cL_show 8 = .ok (.i2l, 1) := by decide +kernel
theorem dL_show_9 : decode cL_show 9 = .ok (.lastore, 1) := by decide +kernel
theorem dL_show_10 : decode cL_show 10 = .ok (.goto 11, 3) := by decide +kernel
theorem dL_show_13 : decode cL_show 13 = .ok (.astore 4, 2) := by decide +kernel
theorem dL_show_15 : decode cL_show 15 = .ok (.iconst 1, 1) := by decide +kernel
theorem dL_show_16 : decode cL_show 16 = .ok (.ireturn, 1) := by decide +kernel
theorem dL_show_17 : decode cL_show 17 = .ok (.astore 4, 2) := by decide +kernel
theorem dL_show_19 : decode cL_show 19 = .ok (.iconst 2, 1) := by decide +kernel
theorem dL_show_20 : decode cL_show 20 = .ok (.ireturn, 1) := by decide +kernel
theorem dL_show_21 : decode cL_show 21 = .ok (.iconst 0, 1) := by decide +kernel
theorem dL_show_22 : decode cL_show 22 = .ok (.ireturn, 1) := by decide +kernel
theorem dL_dot_0 : decode cL_dot 0 = .ok (.aload_n 2, 1) := by decide +kernel
theorem dL_dot_1 : decode cL_dot 1 = .ok (.iconst 0, 1) := by decide +kernel
theorem dL_dot_2 : decode cL_dot 2 = .ok (.aload_n 0, 1) := by decide +kernel
theorem dL_dot_3 : decode cL_dot 3 = .ok (.iload_n 1, 1) := by decide +kernel
theorem dL_dot_4 : decode cL_dot 4 = .ok (.invokevirtual 17, 3) := by decide +kernel
theorem dL_dot_7 : decode cL_dot 7 = .ok (.i2l, 1) := by decide +kernel
theorem dL_dot_8 : decode cL_dot 8 = .ok (.lastore, 1) := by decide +kernel
theorem dL_dot_9 : decode cL_dot 9 = .ok (.goto 6, 3) := by decide +kernel
theorem dL_dot_12 : decode cL_dot 12 = .ok (.astore_n 3, 1) := by decide +kernel
theorem dL_dot_13 : decode cL_dot 13 = .ok (.iconst 1, 1) := by decide +kernel
theorem dL_dot_14 : decode cL_dot 14 = .ok (.ireturn, 1) := by decide +kernel
theorem dL_dot_15 : decode cL_dot 15 = .ok (.iconst 0, 1) := by decide +kernel
theorem dL_dot_16 : decode cL_dot 16 = .ok (.ireturn, 1) := by decide +kernel
theorem dL_burn_0 : decode cL_burn 0 = .ok (.aload_n 3, 1) := by decide +kernel
theorem dL_burn_1 : decode cL_burn 1 = .ok (.iconst 0, 1) := by decide +kernel
theorem dL_burn_2 : decode cL_burn 2 = .ok (.aload_n 0, 1) := by decide +kernel
theorem dL_burn_3 : decode cL_burn 3 = .ok (.iload_n 1, 1) := by decide +kernel
theorem dL_burn_4 : decode cL_burn 4 = .ok (.iload_n 2, 1) := by decide +kernel
theorem dL_burn_5 : decode cL_burn 5 = .ok (.invokevirtual 21, 3) := by decide +kernel
theorem dL_burn_8 : decode cL_burn 8 = .ok (.i2l, 1) := by decide +kernel
theorem dL_burn_9 : decode cL_burn 9 = .ok (.lastore, 1) := by decide +kernel
theorem dL_burn_10 : decode cL_burn 10 = .ok (.goto 7, 3) := by decide +kernel
theorem dL_burn_13 : decode cL_burn 13 = .ok (.astore 4, 2) := by decide +kernel
theorem dL_burn_15 : decode cL_burn 15 = .ok (.iconst 1, 1) := by decide +kernel
theorem dL_burn_16 : decode cL_burn 16 = .ok (.ireturn, 1) := by decide +kernel
theorem dL_burn_17 : decode cL_burn 17 = .ok (.iconst 0, 1) := by decide +kernel
theorem dL_burn_18 : decode cL_burn 18 = .ok (.ireturn, 1) := by decide +kernel
theorem dL_cut_0 : decode cL_cut 0 = .ok (.aload_n 2, 1) := by decide +kernel
theorem dL_cut_1 : decode cL_cut 1 = .ok (.iconst 0, 1) := by decide +kernel
theorem dL_cut_2 : decode cL_cut 2 = .ok (.aload_n 0, 1) := by decide +kernel
theorem dL_cut_3 : decode cL_cut 3 = .ok (.iload_n 1, 1) := by decide +kernel
theorem dL_cut_4 : decode cL_cut 4 = .ok (.invokevirtual 24, 3) := by decide +kernel
theorem dL_cut_7 : decode cL_cut 7 = .ok (.i2l, 1) := by decide +kernel
theorem dL_cut_8 : decode cL_cut 8 = .ok (.lastore, 1) := by decide +kernel
theorem dL_cut_9 : decode cL_cut 9 = .ok (.goto 6, 3) := by decide +kernel
theorem dL_cut_12 : decode cL_cut 12 = .ok (.astore_n 3, 1) := by decide +kernel
theorem dL_cut_13 : decode cL_cut 13 = .ok (.iconst 1, 1) := by decide +kernel
theorem dL_cut_14 : decode cL_cut 14 = .ok (.ireturn, 1) := by decide +kernel
theorem dL_cut_15 : decode cL_cut 15 = .ok (.iconst 0, 1) := by decide +kernel
theorem dL_cut_16 : decode cL_cut 16 = .ok (.ireturn, 1) := by decide +kernel
theorem dL_time_0 : decode cL_time 0 = .ok (.aload_n 3, 1) := by decide +kernel
theorem dL_time_1 : decode cL_time 1 = .ok (.iconst 0, 1) := by decide +kernel
theorem dL_time_2 : decode cL_time 2 = .ok (.aload_n 0, 1) := by decide +kernel
theorem dL_time_3 : decode cL_time 3 = .ok (.iload_n 1, 1) := by decide +kernel
theorem dL_time_4 : decode cL_time 4 = .ok (.iload_n 2, 1) := by decide +kernel
theorem dL_time_5 : decode cL_time 5 = .ok (.invokevirtual 27, 3) := by decide +kernel
theorem dL_time_8 : decode cL_time 8 = .ok (.i2l, 1) := by decide +kernel
theorem dL_time_9 : decode cL_time 9 = .ok (.lastore, 1) := by decide +kernel
theorem dL_time_10 : decode cL_time 10 = .ok (.goto 11, 3) := by decide +kernel
theorem dL_time_13 : decode cL_time 13 = .ok (.astore 4, 2) := by decide +kernel
theorem dL_time_15 : decode cL_time 15 = .ok (.iconst 1, 1) := by decide +kernel
theorem dL_time_16 : decode cL_time 16 = .ok (.ireturn, 1) := by decide +kernel
theorem dL_time_17 : decode cL_time 17 = .ok (.astore 4, 2) := by decide +kernel
theorem dL_time_19 : decode cL_time 19 = .ok (.iconst 2, 1) := by decide +kernel
theorem dL_time_20 : decode cL_time 20 = .ok (.ireturn, 1) := by decide +kernel
theorem dL_time_21 : decode cL_time 21 = .ok (.iconst 0, 1) := by decide +kernel
theorem dL_time_22 : decode cL_time 22 = .ok (.ireturn, 1) := by decide +kernel
theorem dL_balance_0 : decode cL_balance 0 = .ok (.aload_n 2, 1) := by decide +kernel
theorem dL_balance_1 : decode cL_balance 1 = .ok (.iconst 0, 1) := by decide +kernel
theorem dL_balance_2 : decode cL_balance 2 = .ok (.aload_n 0, 1) := by decide +kernel
theorem dL_balance_3 : decode cL_balance 3 = .ok (.iload_n 1, 1) := by decide +kernel
theorem dL_balance_4 : decode cL_balance 4 = .ok (.invokevirtual 30, 3) := by decide +kernel
theorem dL_balance_7 : decode cL_balance 7 = .ok (.i2l, 1) := by decide +kernel
theorem dL_balance_8 : decode cL_balance 8 = .ok (.lastore, 1) := by decide +kernel
theorem dL_balance_9 : decode cL_balance 9 = .ok (.goto 9, 3) := by decide +kernel
theorem dL_balance_12 : decode cL_balance 12 = .ok (.astore_n 3, 1) := by decide +kernel
theorem dL_balance_13 : decode cL_balance 13 = .ok (.iconst 1, 1) := by decide +kernel
theorem dL_balance_14 : decode cL_balance 14 = .ok (.ireturn, 1) := by decide +kernel
theorem dL_balance_15 : decode cL_balance 15 = .ok (.astore_n 3, 1) := by decide +kernel
theorem dL_balance_16 : decode cL_balance 16 = .ok (.iconst 2, 1) := by decide +kernel
theorem dL_balance_17 : decode cL_balance 17 = .ok (.ireturn, 1) := by decide +kernel
theorem dL_balance_18 : decode cL_balance 18 = .ok (.iconst 0, 1) := by decide +kernel
theorem dL_balance_19 : decode cL_balance 19 = .ok (.ireturn, 1) := by decide +kernel
theorem dL_set_0 : decode cL_set 0 = .ok (.aload_n 3, 1) := by decide +kernel
theorem dL_set_1 : decode cL_set 1 = .ok (.iconst 0, 1) := by decide +kernel
theorem dL_set_2 : decode cL_set 2 = .ok (.aload_n 0, 1) := by decide +kernel
theorem dL_set_3 : decode cL_set 3 = .ok (.iload_n 1, 1) := by decide +kernel
theorem dL_set_4 : decode cL_set 4 = .ok (.iload_n 2, 1) := by decide +kernel
theorem dL_set_5 : decode cL_set 5 = .ok (.invokevirtual 35, 3) := by decide +kernel
theorem dL_set_8 : decode cL_set 8 = .ok (.i2l, 1) := by decide +kernel
theorem dL_set_9 : decode cL_set 9 = .ok (.lastore, 1) := by decide +kernel
theorem dL_set_10 : decode cL_set 10 = .ok (.goto 11, 3) := by decide +kernel
theorem dL_set_13 : decode cL_set 13 = .ok (.astore 4, 2) := by decide +kernel
theorem dL_set_15 : decode cL_set 15 = .ok (.iconst 1, 1) := by decide +kernel
theorem dL_set_16 : decode cL_set 16 = .ok (.ireturn, 1) := by decide +kernel
theorem dL_set_17 : decode cL_set 17 = .ok (.astore 4, 2) := by decide +kernel
theorem dL_set_19 : decode cL_set 19 = .ok (.iconst 2, 1) := by decide +kernel
theorem dL_set_20 : decode cL_set 20 = .ok (.ireturn, 1) := by decide +kernel
theorem dL_set_21 : decode cL_set 21 = .ok (.iconst 0, 1) := by decide +kernel
theorem dL_set_22 : decode cL_set 22 = .ok (.ireturn, 1) := by decide +kernel
theorem dL_pass_0 : decode cL_pass 0 = .ok (.aload_n 2, 1) := by decide +kernel
theorem dL_pass_1 : decode cL_pass 1 = .ok (.iconst 0, 1) := by decide +kernel
theorem dL_pass_2 : decode cL_pass 2 = .ok (.aload_n 0, 1) := by decide +kernel
theorem dL_pass_3 : decode cL_pass 3 = .ok (.iload_n 1, 1) := by decide +kernel
theorem dL_pass_4 : decode cL_pass 4 = .ok (.invokevirtual 38, 3) := by decide +kernel
theorem dL_pass_7 : decode cL_pass 7 = .ok (.i2l, 1) := by decide +kernel
theorem dL_pass_8 : decode cL_pass 8 = .ok (.lastore, 1) := by decide +kernel
theorem dL_pass_9 : decode cL_pass 9 = .ok (.goto 9, 3) := by decide +kernel
theorem dL_pass_12 : decode cL_pass 12 = .ok (.astore_n 3, 1) := by decide +kernel
theorem dL_pass_13 : decode cL_pass 13 = .ok (.iconst 1, 1) := by decide +kernel
theorem dL_pass_14 : decode cL_pass 14 = .ok (.ireturn, 1) := by decide +kernel
theorem dL_pass_15 : decode cL_pass 15 = .ok (.astore_n 3, 1) := by decide +kernel
theorem dL_pass_16 : decode cL_pass 16 = .ok (.iconst 2, 1) := by decide +kernel
theorem dL_pass_17 : decode cL_pass 17 = .ok (.ireturn, 1) := by decide +kernel
theorem dL_pass_18 : decode cL_pass 18 = .ok (.iconst 0, 1) := by decide +kernel
theorem dL_pass_19 : decode cL_pass 19 = .ok (.ireturn, 1) := by decide +kernel
theorem dL_append_0 : decode cL_append 0 = .ok (.aload_n 2, 1) := by decide +kernel
theorem dL_append_1 : decode cL_append 1 = .ok (.iconst 0, 1) := by decide +kernel
theorem dL_append_2 : decode cL_append 2 = .ok (.aload_n 0, 1) := by decide +kernel
theorem dL_append_3 : decode cL_append 3 = .ok (.iload_n 1, 1) := by decide +kernel
theorem dL_append_4 : decode cL_append 4 = .ok (.invokevirtual 41, 3) := by decide +kernel
theorem dL_append_7 : decode cL_append 7 = .ok (.i2l, 1) := by decide +kernel
theorem dL_append_8 : decode cL_append 8 = .ok (.lastore, 1) := by decide +kernel
theorem dL_append_9 : decode cL_append 9 = .ok (.goto 9, 3) := by decide +kernel
theorem dL_append_12 : decode cL_append 12 = .ok (.astore_n 3, 1) := by decide +kernel
theorem dL_append_13 : decode cL_append 13 = .ok (.iconst 1, 1) := by decide +kernel
theorem dL_append_14 : decode cL_append 14 = .ok (.ireturn, 1) := by decide +kernel
theorem dL_append_15 : decode cL_append 15 = .ok (.astore_n 3, 1) := by decide +kernel
theorem dL_append_16 : decode cL_append 16 = .ok (.iconst 2, 1) := by decide +kernel
theorem dL_append_17 : decode cL_append 17 = .ok (.ireturn, 1) := by decide +kernel
theorem dL_append_18 : decode cL_append 18 = .ok (.iconst 0, 1) := by decide +kernel
theorem dL_append_19 : decode cL_append 19 = .ok (.ireturn, 1) := by decide +kernel
theorem dL_load_0 : decode cL_load 0 = .ok (.aload_n 1, 1) := by decide +kernel
theorem dL_load_1 : decode cL_load 1 = .ok (.iconst 0, 1) := by decide +kernel
theorem dL_load_2 : decode cL_load 2 = .ok (.aload_n 0, 1) := by decide +kernel
theorem dL_load_3 : decode cL_load 3 = .ok (.invokevirtual 44, 3) := by decide +kernel
theorem dL_load_6 : decode cL_load 6 = .ok (.i2l, 1) := by decide +kernel
theorem dL_load_7 : decode cL_load 7 = .ok (.lastore, 1) := by decide +kernel
theorem dL_load_8 : decode cL_load 8 = .ok (.goto 6, 3) := by decide +kernel
theorem dL_load_11 : decode cL_load 11 = .ok (.astore_n 2, 1) := by decide +kernel
theorem dL_load_12 : decode cL_load 12 = .ok (.iconst 1, 1) := by decide +kernel
theorem dL_load_13 : decode cL_load 13 = .ok (.ireturn, 1) := by decide +kernel
theorem dL_load_14 : decode cL_load 14 = .ok (.iconst 0, 1) := by decide +kernel
theorem dL_load_15 : decode cL_load 15 = .ok (.ireturn, 1) := by decide +kernel
theorem dL_keep_0 : decode cL_keep 0 = .ok (.aload_n 2, 1) := by decide +kernel
theorem dL_keep_1 : decode cL_keep 1 = .ok (.iconst 0, 1) := by decide +kernel
theorem dL_keep_2 : decode cL_keep 2 = .ok (.aload_n 0, 1) := by decide +kernel
theorem dL_keep_3 : decode cL_keep 3 = .ok (.iload_n 1, 1) := by decide +kernel
theorem dL_keep_4 : decode cL_keep 4 = .ok (.invokevirtual 48, 3) := by decide +kernel
theorem dL_keep_7 : decode cL_keep 7 = .ok (.i2l, 1) := by decide +kernel
theorem dL_keep_8 : decode cL_keep 8 = .ok (.lastore, 1) := by decide +kernel
theorem dL_keep_9 : decode cL_keep 9 = .ok (.goto 6, 3) := by decide +kernel
theorem dL_keep_12 : decode cL_keep 12 = .ok (.astore_n 3, 1) := by decide +kernel
theorem dL_keep_13 : decode cL_keep 13 = .ok (.iconst 1, 1) := by decide +kernel
theorem dL_keep_14 : decode cL_keep 14 = .ok (.ireturn, 1) := by decide +kernel
theorem dL_keep_15 : decode cL_keep 15 = .ok (.iconst 0, 1) := by decide +kernel
theorem dL_keep_16 : decode cL_keep 16 = .ok (.ireturn, 1) := by decide +kernel
theorem dL_goBack_0 : decode cL_goBack 0 = .ok (.aload_n 2, 1) := by decide +kernel
theorem dL_goBack_1 : decode cL_goBack 1 = .ok (.iconst 0, 1) := by decide +kernel
theorem dL_goBack_2 : decode cL_goBack 2 = .ok (.aload_n 0, 1) := by decide +kernel
theorem dL_goBack_3 : decode cL_goBack 3 = .ok (.iload_n 1, 1) := by decide +kernel
theorem dL_goBack_4 : decode cL_goBack 4 = .ok (.invokevirtual 51, 3) := by decide +kernel
theorem dL_goBack_7 : decode cL_goBack 7 = .ok (.i2l, 1) := by decide +kernel
theorem dL_goBack_8 : decode cL_goBack 8 = .ok (.lastore, 1) := by decide +kernel
theorem dL_goBack_9 : decode cL_goBack 9 = .ok (.goto 9, 3) := by decide +kernel
theorem dL_goBack_12 : decode cL_goBack 12 = .ok (.astore_n 3, 1) := by decide +kernel
theorem dL_goBack_13 : decode cL_goBack 13 = .ok (.iconst 1, 1) := by decide +kernel
theorem dL_goBack_14 : decode cL_goBack 14 = .ok (.ireturn, 1) := by decide +kernel
theorem dL_goBack_15 : decode cL_goBack 15 = .ok (.astore_n 3, 1) := by decide +kernel
theorem dL_goBack_16 : decode cL_goBack 16 = .ok (.iconst 2, 1) := by decide +kernel
theorem dL_goBack_17 : decode cL_goBack 17 = .ok (.ireturn, 1) := by decide +kernel
theorem dL_goBack_18 : decode cL_goBack 18 = .ok (.iconst 0, 1) := by decide +kernel
theorem dL_goBack_19 : decode cL_goBack 19 = .ok (.ireturn, 1) := by decide +kernel
theorem dL_undo_0 : decode cL_undo 0 = .ok (.aload_n 1, 1) := by decide +kernel
theorem dL_undo_1 : decode cL_undo 1 = .ok (.iconst 0, 1) := by decide +kernel
theorem dL_undo_2 : decode cL_undo 2 = .ok (.aload_n 0, 1) := by decide +kernel
theorem dL_undo_3 : decode cL_undo 3 = .ok (.invokevirtual 54, 3) := by decide +kernel
theorem dL_undo_6 : decode cL_undo 6 = .ok (.i2l, 1) := by decide +kernel
theorem dL_undo_7 : decode cL_undo 7 = .ok (.lastore, 1) := by decide +kernel
theorem dL_undo_8 : decode cL_undo 8 = .ok (.goto 6, 3) := by decide +kernel
theorem dL_undo_11 : decode cL_undo 11 = .ok (.astore_n 2, 1) := by decide +kernel
theorem dL_undo_12 : decode cL_undo 12 = .ok (.iconst 1, 1) := by decide +kernel
theorem dL_undo_13 : decode cL_undo 13 = .ok (.ireturn, 1) := by decide +kernel
theorem dL_undo_14 : decode cL_undo 14 = .ok (.iconst 0, 1) := by decide +kernel
theorem dL_undo_15 : decode cL_undo 15 = .ok (.ireturn, 1) := by decide +kernel
theorem dL_slotOf_0 : decode cL_slotOf 0 = .ok (.aload_n 3, 1) := by decide +kernel
theorem dL_slotOf_1 : decode cL_slotOf 1 = .ok (.iconst 0, 1) := by decide +kernel
theorem dL_slotOf_2 : decode cL_slotOf 2 = .ok (.aload_n 0, 1) := by decide +kernel
theorem dL_slotOf_3 : decode cL_slotOf 3 = .ok (.iload_n 1, 1) := by decide +kernel
theorem dL_slotOf_4 : decode cL_slotOf 4 = .ok (.iload_n 2, 1) := by decide +kernel
theorem dL_slotOf_5 : decode cL_slotOf 5 = .ok (.invokevirtual 57, 3) := by decide +kernel
theorem dL_slotOf_8 : decode cL_slotOf 8 = .ok (.i2l, 1) := by decide +kernel
theorem dL_slotOf_9 : decode cL_slotOf 9 = .ok (.lastore, 1) := by decide +kernel
theorem dL_slotOf_10 : decode cL_slotOf 10 = .ok (.goto 11, 3) := by decide +kernel
theorem dL_slotOf_13 : decode cL_slotOf 13 = .ok (.astore 4, 2) := by decide +kernel
theorem dL_slotOf_15 : decode cL_slotOf 15 = .ok (.iconst 1, 1) := by decide +kernel
theorem dL_slotOf_16 : decode cL_slotOf 16 = .ok (.ireturn, 1) := by decide +kernel
theorem dL_slotOf_17 : decode cL_slotOf 17 = .ok (.astore 4, 2) := by decide +kernel
theorem dL_slotOf_19 : decode cL_slotOf 19 = .ok (.iconst 2, 1) := by decide +kernel
theorem dL_slotOf_20 : decode cL_slotOf 20 = .ok (.ireturn, 1) := by decide +kernel
theorem dL_slotOf_21 : decode cL_slotOf 21 = .ok (.iconst 0, 1) := by decide +kernel
theorem dL_slotOf_22 : decode cL_slotOf 22 = .ok (.ireturn, 1) := by decide +kernel
theorem dL_segmentOf_0 : decode cL_segmentOf 0 = .ok (.aload 4, 2) := by decide +kernel
theorem dL_segmentOf_2 : decode cL_segmentOf 2 = .ok (.iconst 0, 1) := by decide +kernel
theorem dL_segmentOf_3 : decode cL_segmentOf 3 = .ok (.aload_n 0, 1) := by decide +kernel
theorem dL_segmentOf_4 : decode cL_segmentOf 4 = .ok (.iload_n 1, 1) := by decide +kernel
theorem dL_segmentOf_5 : decode cL_segmentOf 5 = .ok (.iload_n 2, 1) := by decide +kernel
theorem dL_segmentOf_6 : decode cL_segmentOf 6 = .ok (.iload_n 3, 1) := by decide +kernel
theorem dL_segmentOf_7 : decode cL_segmentOf 7 = .ok (.invokevirtual 60, 3) := by decide +kernel
theorem dL_segmentOf_10 : decode cL_segmentOf 10 = .ok (.i2l, 1) := by decide +kernel
theorem dL_segmentOf_11 : decode cL_segmentOf 11 = .ok (.lastore, 1) := by decide +kernel
theorem dL_segmentOf_12 : decode cL_segmentOf 12 = .ok (.goto 11, 3) := by decide +kernel
theorem dL_segmentOf_15 : decode cL_segmentOf 15 = .ok (.astore 5, 2) := by decide +kernel
theorem dL_segmentOf_17 : decode cL_segmentOf 17 = .ok (.iconst 1, 1) := by decide +kernel
theorem dL_segmentOf_18 : decode cL_segmentOf 18 = .ok (.ireturn, 1) := by decide +kernel
theorem dL_segmentOf_19 : decode cL_segmentOf 19 = .ok (.astore 5, 2) := by decide +kernel
theorem dL_segmentOf_21 : decode cL_segmentOf 21 = .ok (.iconst 2, 1) := by decide +kernel
theorem dL_segmentOf_22 : decode cL_segmentOf 22 = .ok (.ireturn, 1) := by decide +kernel
theorem dL_segmentOf_23 : decode cL_segmentOf 23 = .ok (.iconst 0, 1) := by decide +kernel
theorem dL_segmentOf_24 : decode cL_segmentOf 24 = .ok (.ireturn, 1) := by decide +kernel
theorem dL_count_0 : decode cL_count 0 = .ok (.aload_n 2, 1) := by decide +kernel
theorem dL_count_1 : decode cL_count 1 = .ok (.iconst 0, 1) := by decide +kernel
theorem dL_count_2 : decode cL_count 2 = .ok (.aload_n 0, 1) := by decide +kernel
theorem dL_count_3 : decode cL_count 3 = .ok (.iload_n 1, 1) := by decide +kernel
theorem dL_count_4 : decode cL_count 4 = .ok (.invokevirtual 64, 3) := by decide +kernel
theorem dL_count_7 : decode cL_count 7 = .ok (.i2l, 1) := by decide +kernel
theorem dL_count_8 : decode cL_count 8 = .ok (.lastore, 1) := by decide +kernel
theorem dL_count_9 : decode cL_count 9 = .ok (.goto 6, 3) := by decide +kernel
theorem dL_count_12 : decode cL_count 12 = .ok (.astore_n 3, 1) := by decide +kernel
theorem dL_count_13 : decode cL_count 13 = .ok (.iconst 1, 1) := by decide +kernel
theorem dL_count_14 : decode cL_count 14 = .ok (.ireturn, 1) := by decide +kernel
theorem dL_count_15 : decode cL_count 15 = .ok (.iconst 0, 1) := by decide +kernel
theorem dL_count_16 : decode cL_count 16 = .ok (.ireturn, 1) := by decide +kernel
theorem dL_setting_0 : decode cL_setting 0 = .ok (.aload_n 2, 1) := by decide +kernel
theorem dL_setting_1 : decode cL_setting 1 = .ok (.iconst 0, 1) := by decide +kernel
theorem dL_setting_2 : decode cL_setting 2 = .ok (.aload_n 0, 1) := by decide +kernel
theorem dL_setting_3 : decode cL_setting 3 = .ok (.iload_n 1, 1) := by decide +kernel
theorem dL_setting_4 : decode cL_setting 4 = .ok (.invokevirtual 67, 3) := by decide +kernel
theorem dL_setting_7 : decode cL_setting 7 = .ok (.i2l, 1) := by decide +kernel
theorem dL_setting_8 : decode cL_setting 8 = .ok (.lastore, 1) := by decide +kernel
theorem dL_setting_9 : decode cL_setting 9 = .ok (.goto 6, 3) := by decide +kernel
theorem dL_setting_12 : decode cL_setting 12 = .ok (.astore_n 3, 1) := by decide +kernel
theorem dL_setting_13 : decode cL_setting 13 = .ok (.iconst 1, 1) := by decide +kernel
theorem dL_setting_14 : decode cL_setting 14 = .ok (.ireturn, 1) := by decide +kernel
theorem dL_setting_15 : decode cL_setting 15 = .ok (.iconst 0, 1) := by decide +kernel
theorem dL_setting_16 : decode cL_setting 16 = .ok (.ireturn, 1) := by decide +kernel
theorem dL_couldBe_0 : decode cL_couldBe 0 = .ok (.aload_n 3, 1) := by decide +kernel
theorem dL_couldBe_1 : decode cL_couldBe 1 = .ok (.iconst 0, 1) := by decide +kernel
theorem dL_couldBe_2 : decode cL_couldBe 2 = .ok (.aload_n 0, 1) := by decide +kernel
theorem dL_couldBe_3 : decode cL_couldBe 3 = .ok (.iload_n 1, 1) := by decide +kernel
theorem dL_couldBe_4 : decode cL_couldBe 4 = .ok (.iload_n 2, 1) := by decide +kernel
theorem dL_couldBe_5 : decode cL_couldBe 5 = .ok (.invokevirtual 70, 3) := by decide +kernel
theorem dL_couldBe_8 : decode cL_couldBe 8 = .ok (.i2l, 1) := by decide +kernel
theorem dL_couldBe_9 : decode cL_couldBe 9 = .ok (.lastore, 1) := by decide +kernel
theorem dL_couldBe_10 : decode cL_couldBe 10 = .ok (.goto 11, 3) := by decide +kernel
theorem dL_couldBe_13 : decode cL_couldBe 13 = .ok (.astore 4, 2) := by decide +kernel
theorem dL_couldBe_15 : decode cL_couldBe 15 = .ok (.iconst 1, 1) := by decide +kernel
theorem dL_couldBe_16 : decode cL_couldBe 16 = .ok (.ireturn, 1) := by decide +kernel
theorem dL_couldBe_17 : decode cL_couldBe 17 = .ok (.astore 4, 2) := by decide +kernel
theorem dL_couldBe_19 : decode cL_couldBe 19 = .ok (.iconst 2, 1) := by decide +kernel
theorem dL_couldBe_20 : decode cL_couldBe 20 = .ok (.ireturn, 1) := by decide +kernel
theorem dL_couldBe_21 : decode cL_couldBe 21 = .ok (.iconst 0, 1) := by decide +kernel
theorem dL_couldBe_22 : decode cL_couldBe 22 = .ok (.ireturn, 1) := by decide +kernel
theorem dL_ifTimed_0 : decode cL_ifTimed 0 = .ok (.aload_n 3, 1) := by decide +kernel
theorem dL_ifTimed_1 : decode cL_ifTimed 1 = .ok (.iconst 0, 1) := by decide +kernel
theorem dL_ifTimed_2 : decode cL_ifTimed 2 = .ok (.aload_n 0, 1) := by decide +kernel
theorem dL_ifTimed_3 : decode cL_ifTimed 3 = .ok (.iload_n 1, 1) := by decide +kernel
theorem dL_ifTimed_4 : decode cL_ifTimed 4 = .ok (.iload_n 2, 1) := by decide +kernel
theorem dL_ifTimed_5 : decode cL_ifTimed 5 = .ok (.invokevirtual 73, 3) := by decide +kernel
theorem dL_ifTimed_8 : decode cL_ifTimed 8 = .ok (.i2l, 1) := by decide +kernel
theorem dL_ifTimed_9 : decode cL_ifTimed 9 = .ok (.lastore, 1) := by decide +kernel
theorem dL_ifTimed_10 : decode cL_ifTimed 10 = .ok (.goto 11, 3) := by decide +kernel
theorem dL_ifTimed_13 : decode cL_ifTimed 13 = .ok (.astore 4, 2) := by decide +kernel
theorem dL_ifTimed_15 : decode cL_ifTimed 15 = .ok (.iconst 1, 1) := by decide +kernel
theorem dL_ifTimed_16 : decode cL_ifTimed 16 = .ok (.ireturn, 1) := by decide +kernel
theorem dL_ifTimed_17 : decode cL_ifTimed 17 = .ok (.astore 4, 2) := by decide +kernel
theorem dL_ifTimed_19 : decode cL_ifTimed 19 = .ok (.iconst 2, 1) := by decide +kernel
theorem dL_ifTimed_20 : decode cL_ifTimed 20 = .ok (.ireturn, 1) := by decide +kernel
theorem dL_ifTimed_21 : decode cL_ifTimed 21 = .ok (.iconst 0, 1) := by decide +kernel
theorem dL_ifTimed_22 : decode cL_ifTimed 22 = .ok (.ireturn, 1) := by decide +kernel
theorem dL_ifBalanced_0 : decode cL_ifBalanced 0 = .ok (.aload_n 3, 1) := by decide +kernel
theorem dL_ifBalanced_1 : decode cL_ifBalanced 1 = .ok (.iconst 0, 1) := by decide +kernel
theorem dL_ifBalanced_2 : decode cL_ifBalanced 2 = .ok (.aload_n 0, 1) := by decide +kernel
theorem dL_ifBalanced_3 : decode cL_ifBalanced 3 = .ok (.iload_n 1, 1) := by decide +kernel
theorem dL_ifBalanced_4 : decode cL_ifBalanced 4 = .ok (.iload_n 2, 1) := by decide +kernel
theorem dL_ifBalanced_5 : decode cL_ifBalanced 5 = .ok (.invokevirtual 76, 3) := by decide +kernel
theorem dL_ifBalanced_8 : decode cL_ifBalanced 8 = .ok (.i2l, 1) := by decide +kernel
theorem dL_ifBalanced_9 : decode cL_ifBalanced 9 = .ok (.lastore, 1) := by decide +kernel
theorem dL_ifBalanced_10 : decode cL_ifBalanced 10 = .ok (.goto 11, 3) := by decide +kernel
theorem dL_ifBalanced_13 : decode cL_ifBalanced 13 = .ok (.astore 4, 2) := by decide +kernel
theorem dL_ifBalanced_15 : decode cL_ifBalanced 15 = .ok (.iconst 1, 1) := by decide +kernel
theorem dL_ifBalanced_16 : decode cL_ifBalanced 16 = .ok (.ireturn, 1) := by decide +kernel
theorem dL_ifBalanced_17 : decode cL_ifBalanced 17 = .ok (.astore 4, 2) := by decide +kernel
theorem dL_ifBalanced_19 : decode cL_ifBalanced 19 = .ok (.iconst 2, 1) := by decide +kernel
theorem dL_ifBalanced_20 : decode cL_ifBalanced 20 = .ok (.ireturn, 1) := by decide +kernel
theorem dL_ifBalanced_21 : decode cL_ifBalanced 21 = .ok (.iconst 0, 1) := by decide +kernel
theorem dL_ifBalanced_22 : decode cL_ifBalanced 22 = .ok (.ireturn, 1) := by decide +kernel
theorem dL_safest_0 : decode cL_safest 0 = .ok (.aload_n 2, 1) := by decide +kernel
theorem dL_safest_1 : decode cL_safest 1 = .ok (.iconst 0, 1) := by decide +kernel
theorem dL_safest_2 : decode cL_safest 2 = .ok (.aload_n 0, 1) := by decide +kernel
theorem dL_safest_3 : decode cL_safest 3 = .ok (.iload_n 1, 1) := by decide +kernel
theorem dL_safest_4 : decode cL_safest 4 = .ok (.invokevirtual 79, 3) := by decide +kernel
theorem dL_safest_7 : decode cL_safest 7 = .ok (.i2l, 1) := by decide +kernel
theorem dL_safest_8 : decode cL_safest 8 = .ok (.lastore, 1) := by decide +kernel
theorem dL_safest_9 : decode cL_safest 9 = .ok (.goto 6, 3) := by decide +kernel
theorem dL_safest_12 : decode cL_safest 12 = .ok (.astore_n 3, 1) := by decide +kernel
theorem dL_safest_13 : decode cL_safest 13 = .ok (.iconst 1, 1) := by decide +kernel
theorem dL_safest_14 : decode cL_safest 14 = .ok (.ireturn, 1) := by decide +kernel
theorem dL_safest_15 : decode cL_safest 15 = .ok (.iconst 0, 1) := by decide +kernel
theorem dL_safest_16 : decode cL_safest 16 = .ok (.ireturn, 1) := by decide +kernel
