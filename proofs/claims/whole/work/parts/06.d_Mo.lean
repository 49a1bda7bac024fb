theorem d_Mo_init_0 : decode b_Mo_init 0 = .ok (.aload_n 0, 1) := by decide +kernel
theorem d_Mo_init_1 : decode b_Mo_init 1 = .ok (.invokespecial 1, 3) := by decide +kernel
theorem d_Mo_init_4 : decode b_Mo_init 4 = .ok (.aload_n 0, 1) := by decide +kernel
theorem d_Mo_init_5 : decode b_Mo_init 5 = .ok (.bipush 36, 2) := by decide +kernel
theorem d_Mo_init_7 : decode b_Mo_init 7 = .ok (.newarray .int, 2) := by decide +kernel
theorem d_Mo_init_9 : decode b_Mo_init 9 = .ok (.putfield 7, 3) := by decide +kernel
theorem d_Mo_init_12 : decode b_Mo_init 12 = .ok (.aload_n 0, 1) := by decide +kernel
theorem d_Mo_init_13 : decode b_Mo_init 13 = .ok (.sipush 144, 3) := by decide +kernel
theorem d_Mo_init_16 : decode b_Mo_init 16 = .ok (.newarray .int, 2) := by decide +kernel
theorem d_Mo_init_18 : decode b_Mo_init 18 = .ok (.putfield 13, 3) := by decide +kernel
theorem d_Mo_init_21 : decode b_Mo_init 21 = .ok (.aload_n 0, 1) := by decide +kernel
theorem d_Mo_init_22 : decode b_Mo_init 22 = .ok (.iconst 4, 1) := by decide +kernel
theorem d_Mo_init_23 : decode b_Mo_init 23 = .ok (.newarray .int, 2) := by decide +kernel
theorem d_Mo_init_25 : decode b_Mo_init 25 = .ok (.putfield 16, 3) := by decide +kernel
theorem d_Mo_init_28 : decode b_Mo_init 28 = .ok (.aload_n 0, 1) := by decide +kernel
theorem d_Mo_init_29 : decode b_Mo_init 29 = .ok (.sipush 216, 3) := by decide +kernel
theorem d_Mo_init_32 : decode b_Mo_init 32 = .ok (.newarray .int, 2) := by decide +kernel
theorem d_Mo_init_34 : decode b_Mo_init 34 = .ok (.putfield 19, 3) := by decide +kernel
theorem d_Mo_init_37 : decode b_Mo_init 37 = .ok (.aload_n 0, 1) := by decide +kernel
theorem d_Mo_init_38 : decode b_Mo_init 38 = .ok (.bipush 6, 2) := by decide +kernel
theorem d_Mo_init_40 : decode b_Mo_init 40 = .ok (.newarray .int, 2) := by decide +kernel
theorem d_Mo_init_42 : decode b_Mo_init 42 = .ok (.putfield 22, 3) := by decide +kernel
theorem d_Mo_init_45 : decode b_Mo_init 45 = .ok (.aload_n 0, 1) := by decide +kernel
theorem d_Mo_init_46 : decode b_Mo_init 46 = .ok (.iconst 4, 1) := by decide +kernel
theorem d_Mo_init_47 : decode b_Mo_init 47 = .ok (.newarray .boolean, 2) := by decide +kernel
theorem d_Mo_init_49 : decode b_Mo_init 49 = .ok (.dup, 1) := by decide +kernel
theorem d_Mo_init_50 : decode b_Mo_init 50 = .ok (.iconst 0, 1) := by decide +kernel
theorem d_Mo_init_51 : decode b_Mo_init 51 = .ok (.iconst 1, 1) := by decide +kernel
theorem d_Mo_init_52 : decode b_Mo_init 52 = .ok (.bastore, 1) := by decide +kernel
theorem d_Mo_init_53 : decode b_Mo_init 53 = .ok (.dup, 1) := by decide +kernel
theorem d_Mo_init_54 : decode b_Mo_init 54 = .ok (.iconst 1, 1) := by decide +kernel
theorem d_Mo_init_55 : decode b_Mo_init 55 = .ok (.iconst 0, 1) := by decide +kernel
theorem d_Mo_init_56 : decode b_Mo_init 56 = .ok (.bastore, 1) := by decide +kernel
theorem d_Mo_init_57 : decode b_Mo_init 57 = .ok (.dup, 1) := by decide +kernel
theorem d_Mo_init_58 : decode b_Mo_init 58 = .ok (.iconst 2, 1) := by decide +kernel
theorem d_Mo_init_59 : decode b_Mo_init 59 = .ok (.iconst 0, 1) := by decide +kernel
theorem d_Mo_init_60 : decode b_Mo_init 60 = .ok (.bastore, 1) := by decide +kernel
theorem d_Mo_init_61 : decode b_Mo_init 61 = .ok (.dup, 1) := by decide +kernel
theorem d_Mo_init_62 : decode b_Mo_init 62 = .ok (.iconst 3, 1) := by decide +kernel
theorem d_Mo_init_63 : decode b_Mo_init 63 = .ok (.iconst 0, 1) := by decide +kernel
theorem d_Mo_init_64 : decode b_Mo_init 64 = .ok (.bastore, 1) := by decide +kernel
theorem d_Mo_init_65 : decode b_Mo_init 65 = .ok (.putfield 25, 3) := by decide +kernel
theorem d_Mo_init_68 : decode b_Mo_init 68 = .ok (.aload_n 0, 1) := by decide +kernel
theorem d_Mo_init_69 : decode b_Mo_init 69 = .ok (.bipush 12, 2) := by decide +kernel
theorem d_Mo_init_71 : decode b_Mo_init 71 = .ok (.newarray .int, 2) := by decide +kernel
theorem d_Mo_init_73 : decode b_Mo_init 73 = .ok (.putfield 29, 3) := by decide +kernel
theorem d_Mo_init_76 : decode b_Mo_init 76 = .ok (.aload_n 0, 1) := by decide +kernel
theorem d_Mo_init_77 : decode b_Mo_init 77 = .ok (.bipush 12, 2) := by decide +kernel
theorem d_Mo_init_79 : decode b_Mo_init 79 = .ok (.newarray .int, 2) := by decide +kernel
theorem d_Mo_init_81 : decode b_Mo_init 81 = .ok (.putfield 32, 3) := by decide +kernel
theorem d_Mo_init_84 : decode b_Mo_init 84 = .ok (.aload_n 0, 1) := by decide +kernel
theorem d_Mo_init_85 : decode b_Mo_init 85 = .ok (.bipush 96, 2) := by decide +kernel
theorem d_Mo_init_87 : decode b_Mo_init 87 = .ok (.newarray .int, 2) := by decide +kernel
theorem d_Mo_init_89 : decode b_Mo_init 89 = .ok (.putfield 35, 3) := by decide +kernel
theorem d_Mo_init_92 : decode b_Mo_init 92 = .ok (.aload_n 0, 1) := by decide +kernel
theorem d_Mo_init_93 : decode b_Mo_init 93 = .ok (.bipush 12, 2) := by decide +kernel
theorem d_Mo_init_95 : decode b_Mo_init 95 = .ok (.newarray .int, 2) := by decide +kernel
theorem d_Mo_init_97 : decode b_Mo_init 97 = .ok (.putfield 38, 3) := by decide +kernel
theorem d_Mo_init_100 : decode b_Mo_init 100 = .ok (.aload_n 0, 1) := by decide +kernel
theorem d_Mo_init_101 : decode b_Mo_init 101 = .ok (.bipush 12, 2) := by decide +kernel
theorem d_Mo_init_103 : decode b_Mo_init 103 = .ok (.newarray .int, 2) := by decide +kernel
theorem d_Mo_init_105 : decode b_Mo_init 105 = .ok (.putfield 41, 3) := by decide +kernel
theorem d_Mo_init_108 : decode b_Mo_init 108 = .ok (.aload_n 0, 1) := by decide +kernel
theorem d_Mo_init_109 : decode b_Mo_init 109 = .ok (.bipush 12, 2) := by decide +kernel
theorem d_Mo_init_111 : decode b_Mo_init 111 = .ok (.newarray .int, 2) := by decide +kernel
theorem d_Mo_init_113 : decode b_Mo_init 113 = .ok (.putfield 44, 3) := by decide +kernel
theorem d_Mo_init_116 : decode b_Mo_init 116 = .ok (.aload_n 0, 1) := by decide +kernel
theorem d_Mo_init_117 : decode b_Mo_init 117 = .ok (.bipush 36, 2) := by decide +kernel
theorem d_Mo_init_119 : decode b_Mo_init 119 = .ok (.newarray .int, 2) := by decide +kernel
theorem d_Mo_init_121 : decode b_Mo_init 121 = .ok (.putfield 47, 3) := by decide +kernel
theorem d_Mo_init_124 : decode b_Mo_init 124 = .ok (.aload_n 0, 1) := by decide +kernel
theorem d_Mo_init_125 : decode b_Mo_init 125 = .ok (.bipush 36, 2) := by decide +kernel
theorem d_Mo_init_127 : decode b_Mo_init 127 = .ok (.newarray .int, 2) := by decide +kernel
theorem d_Mo_init_129 : decode b_Mo_init 129 = .ok (.putfield 50, 3) := by decide +kernel
theorem d_Mo_init_132 : decode b_Mo_init 132 = .ok (.aload_n 0, 1) := by decide +kernel
theorem d_Mo_init_133 : decode b_Mo_init 133 = .ok (.bipush 12, 2) := by decide +kernel
theorem d_Mo_init_135 : decode b_Mo_init 135 = .ok (.newarray .int, 2) := by decide +kernel
theorem d_Mo_init_137 : decode b_Mo_init 137 = .ok (.putfield 53, 3) := by decide +kernel
theorem d_Mo_init_140 : decode b_Mo_init 140 = .ok (.iconst 0, 1) := by decide +kernel
theorem d_Mo_init_141 : decode b_Mo_init 141 = .ok (.istore_n 1, 1) := by decide +kernel
theorem d_Mo_init_142 : decode b_Mo_init 142 = .ok (.iload_n 1, 1) := by decide +kernel
theorem d_Mo_init_143 : decode b_Mo_init 143 = .ok (.bipush 12, 2) := by decide +kernel
theorem d_Mo_init_145 : decode b_Mo_init 145 = .ok (.if_icmp .ge 23, 3) := by decide +kernel
theorem d_Mo_init_148 : decode b_Mo_init 148 = .ok (.aload_n 0, 1) := by decide +kernel
theorem d_Mo_init_149 : decode b_Mo_init 149 = .ok (.getfield 29, 3) := by decide +kernel
theorem d_Mo_init_152 : decode b_Mo_init 152 = .ok (.iload_n 1, 1) := by decide +kernel
theorem d_Mo_init_153 : decode b_Mo_init 153 = .ok (.aload_n 0, 1) := by decide +kernel
theorem d_Mo_init_154 : decode b_Mo_init 154 = .ok (.getfield 38, 3) := by decide +kernel
theorem d_Mo_init_157 : decode b_Mo_init 157 = .ok (.iload_n 1, 1) := by decide +kernel
theorem d_Mo_init_158 : decode b_Mo_init 158 = .ok (.iconst (-1), 1) := by decide +kernel
theorem d_Mo_init_159 : decode b_Mo_init 159 = .ok (.dup_x2, 1) := by decide +kernel
theorem d_Mo_init_160 : decode b_Mo_init 160 = .ok (.iastore, 1) := by decide +kernel
theorem d_Mo_init_161 : decode b_Mo_init 161 = .ok (.iastore, 1) := by decide +kernel
theorem d_Mo_init_162 : decode b_Mo_init 162 = .ok (.iinc 1 1, 3) := by decide +kernel
theorem d_Mo_init_165 : decode b_Mo_init 165 = .ok (.goto (-23), 3) := by decide +kernel
theorem d_Mo_init_168 : decode b_Mo_init 168 = .ok (.return_, 1) := by decide +kernel
theorem d_Mo_thrown_0 : decode b_Mo_thrown 0 = .ok (.aload_n 0, 1) := by decide +kernel
theorem d_Mo_thrown_1 : decode b_Mo_thrown 1 = .ok (.getfield 56, 3) := by decide +kernel
theorem d_Mo_thrown_4 : decode b_Mo_thrown 4 = .ok (.ireturn, 1) := by decide +kernel
theorem d_Mo_in_0 : decode b_Mo_in 0 = .ok (.iload_n 0, 1) := by decide +kernel
theorem d_Mo_in_1 : decode b_Mo_in 1 = .ok (.iload_n 1, 1) := by decide +kernel
theorem d_Mo_in_2 : decode b_Mo_in 2 = .ok (.if_icmp .lt 12, 3) := by decide +kernel
theorem d_Mo_in_5 : decode b_Mo_in 5 = .ok (.iload_n 0, 1) := by decide +kernel
theorem d_Mo_in_6 : decode b_Mo_in 6 = .ok (.iload_n 2, 1) := by decide +kernel
theorem d_Mo_in_7 : decode b_Mo_in 7 = .ok (.if_icmp .gt 7, 3) := by decide +kernel
theorem d_Mo_in_10 : decode b_Mo_in 10 = .ok (.iconst 1, 1) := by decide +kernel
theorem d_Mo_in_11 : decode b_Mo_in 11 = .ok (.goto 4, 3) := by decide +kernel
theorem d_Mo_in_14 : decode b_Mo_in 14 = .ok (.iconst 0, 1) := by decide +kernel
theorem d_Mo_in_15 : decode b_Mo_in 15 = .ok (.ireturn, 1) := by decide +kernel
theorem d_Mo_bad_0 : decode b_Mo_bad 0 = .ok (.aload_n 0, 1) := by decide +kernel
theorem d_Mo_bad_1 : decode b_Mo_bad 1 = .ok (.iload_n 1, 1) := by decide +kernel
theorem d_Mo_bad_2 : decode b_Mo_bad 2 = .ok (.ifCond .eq 7, 3) := by decide +kernel
theorem d_Mo_bad_5 : decode b_Mo_bad 5 = .ok (.iconst 0, 1) := by decide +kernel
theorem d_Mo_bad_6 : decode b_Mo_bad 6 = .ok (.goto 4, 3) := by decide +kernel
theorem d_Mo_bad_9 : decode b_Mo_bad 9 = .ok (.iconst 1, 1) := by decide +kernel
theorem d_Mo_bad_10 : decode b_Mo_bad 10 = .ok (.putfield 56, 3) := by decide +kernel
theorem d_Mo_bad_13 : decode b_Mo_bad 13 = .ok (.iload_n 1, 1) := by decide +kernel
theorem d_Mo_bad_14 : decode b_Mo_bad 14 = .ok (.ifCond .ne 7, 3) := by decide +kernel
theorem d_Mo_bad_17 : decode b_Mo_bad 17 = .ok (.iconst 1, 1) := by decide +kernel
theorem d_Mo_bad_18 : decode b_Mo_bad 18 = .ok (.goto 4, 3) := by decide +kernel
theorem d_Mo_bad_21 : decode b_Mo_bad 21 = .ok (.iconst 0, 1) := by decide +kernel
theorem d_Mo_bad_22 : decode b_Mo_bad 22 = .ok (.ireturn, 1) := by decide +kernel
theorem d_Mo_fail_0 : decode b_Mo_fail 0 = .ok (.aload_n 0, 1) := by decide +kernel
theorem d_Mo_fail_1 : decode b_Mo_fail 1 = .ok (.iload_n 1, 1) := by decide +kernel
theorem d_Mo_fail_2 : decode b_Mo_fail 2 = .ok (.putfield 56, 3) := by decide +kernel
theorem d_Mo_fail_5 : decode b_Mo_fail 5 = .ok (.iconst 0, 1) := by decide +kernel
theorem d_Mo_fail_6 : decode b_Mo_fail 6 = .ok (.ireturn, 1) := by decide +kernel
theorem d_Mo_type_0 : decode b_Mo_type 0 = .ok (.iconst 0, 1) := by decide +kernel
theorem d_Mo_type_1 : decode b_Mo_type 1 = .ok (.istore_n 3, 1) := by decide +kernel
theorem d_Mo_type_2 : decode b_Mo_type 2 = .ok (.iconst 1, 1) := by decide +kernel
theorem d_Mo_type_3 : decode b_Mo_type 3 = .ok (.istore 4, 2) := by decide +kernel
theorem d_Mo_type_5 : decode b_Mo_type 5 = .ok (.bipush 56, 2) := by decide +kernel
theorem d_Mo_type_7 : decode b_Mo_type 7 = .ok (.istore 5, 2) := by decide +kernel
theorem d_Mo_type_9 : decode b_Mo_type 9 = .ok (.iload 5, 2) := by decide +kernel
theorem d_Mo_type_11 : decode b_Mo_type 11 = .ok (.ifCond .lt 48, 3) := by decide +kernel
theorem d_Mo_type_14 : decode b_Mo_type 14 = .ok (.lload_n 1, 1) := by decide +kernel
theorem d_Mo_type_15 : decode b_Mo_type 15 = .ok (.iload 5, 2) := by decide +kernel
theorem d_Mo_type_17 : decode b_Mo_type 17 = .ok (.lushr, 1) := by decide +kernel
theorem d_Mo_type_18 : decode b_Mo_type 18 = .ok (.l2i, 1) := by decide +kernel
theorem d_Mo_type_19 : decode b_Mo_type 19 = .ok (.sipush 255, 3) := by decide +kernel
theorem d_Mo_type_22 : decode b_Mo_type 22 = .ok (.iand, 1) := by decide +kernel
theorem d_Mo_type_23 : decode b_Mo_type 23 = .ok (.istore 6, 2) := by decide +kernel
theorem d_Mo_type_25 : decode b_Mo_type 25 = .ok (.iload 6, 2) := by decide +kernel
theorem d_Mo_type_27 : decode b_Mo_type 27 = .ok (.ifCond .eq 6, 3) := by decide +kernel
theorem d_Mo_type_30 : decode b_Mo_type 30 = .ok (.iinc 3 1, 3) := by decide +kernel
theorem d_Mo_type_33 : decode b_Mo_type 33 = .ok (.iload 6, 2) := by decide +kernel
theorem d_Mo_type_35 : decode b_Mo_type 35 = .ok (.ifCond .eq 18, 3) := by decide +kernel
theorem d_Mo_type_38 : decode b_Mo_type 38 = .ok (.iload 6, 2) := by decide +kernel
theorem d_Mo_type_40 : decode b_Mo_type 40 = .ok (.bipush 33, 2) := by decide +kernel
theorem d_Mo_type_42 : decode b_Mo_type 42 = .ok (.bipush 126, 2) := by decide +kernel
theorem d_Mo_type_44 : decode b_Mo_type 44 = .ok (.invokestatic 60, 3) := by decide +kernel
theorem d_Mo_type_47 : decode b_Mo_type 47 = .ok (.ifCond .ne 6, 3) := by decide +kernel
theorem d_Mo_type_50 : decode b_Mo_type 50 = .ok (.iconst 0, 1) := by decide +kernel
theorem d_Mo_type_51 : decode b_Mo_type 51 = .ok (.istore 4, 2) := by decide +kernel
theorem d_Mo_type_53 : decode b_Mo_type 53 = .ok (.iinc 5 (-8), 3) := by decide +kernel
theorem d_Mo_type_56 : decode b_Mo_type 56 = .ok (.goto (-47), 3) := by decide +kernel
theorem d_Mo_type_59 : decode b_Mo_type 59 = .ok (.aload_n 0, 1) := by decide +kernel
theorem d_Mo_type_60 : decode b_Mo_type 60 = .ok (.iload 4, 2) := by decide +kernel
theorem d_Mo_type_62 : decode b_Mo_type 62 = .ok (.invokevirtual 64, 3) := by decide +kernel
theorem d_Mo_type_65 : decode b_Mo_type 65 = .ok (.ifCond .eq 5, 3) := by decide +kernel
theorem d_Mo_type_68 : decode b_Mo_type 68 = .ok (.iconst 0, 1) := by decide +kernel
theorem d_Mo_type_69 : decode b_Mo_type 69 = .ok (.ireturn, 1) := by decide +kernel
theorem d_Mo_type_70 : decode b_Mo_type 70 = .ok (.aload_n 0, 1) := by decide +kernel
theorem d_Mo_type_71 : decode b_Mo_type 71 = .ok (.getfield 68, 3) := by decide +kernel
theorem d_Mo_type_74 : decode b_Mo_type 74 = .ok (.iload_n 3, 1) := by decide +kernel
theorem d_Mo_type_75 : decode b_Mo_type 75 = .ok (.iadd, 1) := by decide +kernel
theorem d_Mo_type_76 : decode b_Mo_type 76 = .ok (.bipush 36, 2) := by decide +kernel
theorem d_Mo_type_78 : decode b_Mo_type 78 = .ok (.if_icmp .le 9, 3) := by decide +kernel
theorem d_Mo_type_81 : decode b_Mo_type 81 = .ok (.aload_n 0, 1) := by decide +kernel
theorem d_Mo_type_82 : decode b_Mo_type 82 = .ok (.iconst 2, 1) := by decide +kernel
theorem d_Mo_type_83 : decode b_Mo_type 83 = .ok (.invokevirtual 71, 3) := by decide +kernel
theorem d_Mo_type_86 : decode b_Mo_type 86 = .ok (.ireturn, 1) := by decide +kernel
theorem d_Mo_type_87 : decode b_Mo_type 87 = .ok (.bipush 56, 2) := by decide +kernel
theorem d_Mo_type_89 : decode b_Mo_type 89 = .ok (.istore 5, 2) := by decide +kernel
theorem d_Mo_type_91 : decode b_Mo_type 91 = .ok (.iload 5, 2) := by decide +kernel
theorem d_Mo_type_93 : decode b_Mo_type 93 = .ok (.ifCond .lt 49, 3) := by decide +kernel
theorem d_Mo_type_96 : decode b_Mo_type 96 = .ok (.lload_n 1, 1) := by decide +kernel
theorem d_Mo_type_97 : decode b_Mo_type 97 = .ok (.iload 5, 2) := by decide +kernel
theorem d_Mo_type_99 : decode b_Mo_type 99 = .ok (.lushr, 1) := by decide +kernel
theorem d_Mo_type_100 : decode b_Mo_type 100 = .ok (.l2i, 1) := by decide +kernel
theorem d_Mo_type_101 : decode b_Mo_type 101 = .ok (.sipush 255, 3) := by decide +kernel
theorem d_Mo_type_104 : decode b_Mo_type 104 = .ok (.iand, 1) := by decide +kernel
theorem d_Mo_type_105 : decode b_Mo_type 105 = .ok (.istore 6, 2) := by decide +kernel
theorem d_Mo_type_107 : decode b_Mo_type 107 = .ok (.iload 6, 2) := by decide +kernel
theorem d_Mo_type_109 : decode b_Mo_type 109 = .ok (.ifCond .ne 6, 3) := by decide +kernel
theorem d_Mo_type_112 : decode b_Mo_type 112 = .ok (.goto 24, 3) := by decide +kernel
theorem d_Mo_type_115 : decode b_Mo_type 115 = .ok (.aload_n 0, 1) := by decide +kernel
theorem d_Mo_type_116 : decode b_Mo_type 116 = .ok (.getfield 7, 3) := by decide +kernel
theorem d_Mo_type_119 : decode b_Mo_type 119 = .ok (.aload_n 0, 1) := by decide +kernel
theorem d_Mo_type_120 : decode b_Mo_type 120 = .ok (.getfield 68, 3) := by decide +kernel
theorem d_Mo_type_123 : decode b_Mo_type 123 = .ok (.iload 6, 2) := by decide +kernel
theorem d_Mo_type_125 : decode b_Mo_type 125 = .ok (.iastore, 1) := by decide +kernel
theorem d_Mo_type_126 : decode b_Mo_type 126 = .ok (.aload_n 0, 1) := by decide +kernel
theorem d_Mo_type_127 : decode b_Mo_type 127 = .ok (.dup, 1) := by decide +kernel
theorem d_Mo_type_128 : decode b_Mo_type 128 = .ok (.getfield 68, 3) := by decide +kernel
theorem d_Mo_type_131 : decode b_Mo_type 131 = .ok (.iconst 1, 1) := by decide +kernel
theorem d_Mo_type_132 : decode b_Mo_type 132 = .ok (.iadd, 1) := by decide +kernel
theorem d_Mo_type_133 : decode b_Mo_type 133 = .ok (.putfield 68, 3) := by decide +kernel
theorem d_Mo_type_136 : decode b_Mo_type 136 = .ok (.iinc 5 (-8), 3) := by decide +kernel
theorem d_Mo_type_139 : decode b_Mo_type 139 = .ok (.goto (-48), 3) := by decide +kernel
theorem d_Mo_type_142 : decode b_Mo_type 142 = .ok (.aload_n 0, 1) := by decide +kernel
theorem d_Mo_type_143 : decode b_Mo_type 143 = .ok (.getfield 68, 3) := by decide +kernel
theorem d_Mo_type_146 : decode b_Mo_type 146 = .ok (.ireturn, 1) := by decide +kernel
theorem d_Mo_letterOf_0 : decode b_Mo_letterOf 0 = .ok (.iload_n 0, 1) := by decide +kernel
theorem d_Mo_letterOf_1 : decode b_Mo_letterOf 1 = .ok (.bipush 97, 2) := by decide +kernel
theorem d_Mo_letterOf_3 : decode b_Mo_letterOf 3 = .ok (.bipush 99, 2) := by decide +kernel
theorem d_Mo_letterOf_5 : decode b_Mo_letterOf 5 = .ok (.invokestatic 60, 3) := by decide +kernel
theorem d_Mo_letterOf_8 : decode b_Mo_letterOf 8 = .ok (.ifCond .eq 10, 3) := by decide +kernel
theorem d_Mo_letterOf_11 : decode b_Mo_letterOf 11 = .ok (.iload_n 0, 1) := by decide +kernel
theorem d_Mo_letterOf_12 : decode b_Mo_letterOf 12 = .ok (.bipush 97, 2) := by decide +kernel
theorem d_Mo_letterOf_14 : decode b_Mo_letterOf 14 = .ok (.isub, 1) := by decide +kernel
theorem d_Mo_letterOf_15 : decode b_Mo_letterOf 15 = .ok (.goto 35, 3) := by decide +kernel
theorem d_Mo_letterOf_18 : decode b_Mo_letterOf 18 = .ok (.iload_n 0, 1) := by decide +kernel
theorem d_Mo_letterOf_19 : decode b_Mo_letterOf 19 = .ok (.bipush 65, 2) := by decide +kernel
theorem d_Mo_letterOf_21 : decode b_Mo_letterOf 21 = .ok (.bipush 67, 2) := by decide +kernel
theorem d_Mo_letterOf_23 : decode b_Mo_letterOf 23 = .ok (.invokestatic 60, 3) := by decide +kernel
theorem d_Mo_letterOf_26 : decode b_Mo_letterOf 26 = .ok (.ifCond .eq 12, 3) := by decide +kernel
theorem d_Mo_letterOf_29 : decode b_Mo_letterOf 29 = .ok (.iconst 3, 1) := by decide +kernel
theorem d_Mo_letterOf_30 : decode b_Mo_letterOf 30 = .ok (.iload_n 0, 1) := by decide +kernel
theorem d_Mo_letterOf_31 : decode b_Mo_letterOf 31 = .ok (.iadd, 1) := by decide +kernel
theorem d_Mo_letterOf_32 : decode b_Mo_letterOf 32 = .ok (.bipush 65, 2) := by decide +kernel
theorem d_Mo_letterOf_34 : decode b_Mo_letterOf 34 = .ok (.isub, 1) := by decide +kernel
theorem d_Mo_letterOf_35 : decode b_Mo_letterOf 35 = .ok (.goto 15, 3) := by decide +kernel
theorem d_Mo_letterOf_38 : decode b_Mo_letterOf 38 = .ok (.iload_n 0, 1) := by decide +kernel
theorem d_Mo_letterOf_39 : decode b_Mo_letterOf 39 = .ok (.bipush 69, 2) := by decide +kernel
theorem d_Mo_letterOf_41 : decode b_Mo_letterOf 41 = .ok (.if_icmp .ne 8, 3) := by decide +kernel
theorem d_Mo_letterOf_44 : decode b_Mo_letterOf 44 = .ok (.bipush 6, 2) := by decide +kernel
theorem d_Mo_letterOf_46 : decode b_Mo_letterOf 46 = .ok (.goto 4, 3) := by decide +kernel
theorem d_Mo_letterOf_49 : decode b_Mo_letterOf 49 = .ok (.iconst (-1), 1) := by decide +kernel
theorem d_Mo_letterOf_50 : decode b_Mo_letterOf 50 = .ok (.ireturn, 1) := by decide +kernel
theorem d_Mo_readRules_0 : decode b_Mo_readRules 0 = .ok (.aload_n 0, 1) := by decide +kernel
theorem d_Mo_readRules_1 : decode b_Mo_readRules 1 = .ok (.getfield 68, 3) := by decide +kernel
theorem d_Mo_readRules_4 : decode b_Mo_readRules 4 = .ok (.iconst 1, 1) := by decide +kernel
theorem d_Mo_readRules_5 : decode b_Mo_readRules 5 = .ok (.iadd, 1) := by decide +kernel
theorem d_Mo_readRules_6 : decode b_Mo_readRules 6 = .ok (.iconst 5, 1) := by decide +kernel
theorem d_Mo_readRules_7 : decode b_Mo_readRules 7 = .ok (.idiv, 1) := by decide +kernel
theorem d_Mo_readRules_8 : decode b_Mo_readRules 8 = .ok (.istore_n 1, 1) := by decide +kernel
theorem d_Mo_readRules_9 : decode b_Mo_readRules 9 = .ok (.aload_n 0, 1) := by decide +kernel
theorem d_Mo_readRules_10 : decode b_Mo_readRules 10 = .ok (.getfield 68, 3) := by decide +kernel
theorem d_Mo_readRules_13 : decode b_Mo_readRules 13 = .ok (.iconst 4, 1) := by decide +kernel
theorem d_Mo_readRules_14 : decode b_Mo_readRules 14 = .ok (.if_icmp .lt 13, 3) := by decide +kernel
theorem d_Mo_readRules_17 : decode b_Mo_readRules 17 = .ok (.aload_n 0, 1) := by decide +kernel
theorem d_Mo_readRules_18 : decode b_Mo_readRules 18 = .ok (.getfield 68, 3) := by decide +kernel
theorem d_Mo_readRules_21 : decode b_Mo_readRules 21 = .ok (.iconst 5, 1) := by decide +kernel
theorem d_Mo_readRules_22 : decode b_Mo_readRules 22 = .ok (.irem, 1) := by decide +kernel
theorem d_Mo_readRules_23 : decode b_Mo_readRules 23 = .ok (.iconst 4, 1) := by decide +kernel
theorem d_Mo_readRules_24 : decode b_Mo_readRules 24 = .ok (.if_icmp .eq 5, 3) := by decide +kernel
theorem d_Mo_readRules_27 : decode b_Mo_readRules 27 = .ok (.iconst 0, 1) := by decide +kernel
theorem d_Mo_readRules_28 : decode b_Mo_readRules 28 = .ok (.ireturn, 1) := by decide +kernel
theorem d_Mo_readRules_29 : decode b_Mo_readRules 29 = .ok (.iconst 0, 1) := by decide +kernel
theorem d_Mo_readRules_30 : decode b_Mo_readRules 30 = .ok (.istore_n 2, 1) := by decide +kernel
theorem d_Mo_readRules_31 : decode b_Mo_readRules 31 = .ok (.iload_n 2, 1) := by decide +kernel
theorem d_Mo_readRules_32 : decode b_Mo_readRules 32 = .ok (.iload_n 1, 1) := by decide +kernel
theorem d_Mo_readRules_33 : decode b_Mo_readRules 33 = .ok (.if_icmp .ge 179, 3) := by decide +kernel
theorem d_Mo_readRules_36 : decode b_Mo_readRules 36 = .ok (.iload_n 2, 1) := by decide +kernel
theorem d_Mo_readRules_37 : decode b_Mo_readRules 37 = .ok (.iconst 5, 1) := by decide +kernel
theorem d_Mo_readRules_38 : decode b_Mo_readRules 38 = .ok (.imul, 1) := by decide +kernel
theorem d_Mo_readRules_39 : decode b_Mo_readRules 39 = .ok (.istore_n 3, 1) := by decide +kernel
theorem d_Mo_readRules_40 : decode b_Mo_readRules 40 = .ok (.aload_n 0, 1) := by decide +kernel
theorem d_Mo_readRules_41 : decode b_Mo_readRules 41 = .ok (.getfield 7, 3) := by decide +kernel
theorem d_Mo_readRules_44 : decode b_Mo_readRules 44 = .ok (.iload_n 3, 1) := by decide +kernel
theorem d_Mo_readRules_45 : decode b_Mo_readRules 45 = .ok (.iaload, 1) := by decide +kernel
theorem d_Mo_readRules_46 : decode b_Mo_readRules 46 = .ok (.bipush 49, 2) := by decide +kernel
theorem d_Mo_readRules_48 : decode b_Mo_readRules 48 = .ok (.bipush 54, 2) := by decide +kernel
theorem d_Mo_readRules_50 : decode b_Mo_readRules 50 = .ok (.invokestatic 60, 3) := by decide +kernel
theorem d_Mo_readRules_53 : decode b_Mo_readRules 53 = .ok (.ifCond .eq 85, 3) := by decide +kernel
theorem d_Mo_readRules_56 : decode b_Mo_readRules 56 = .ok (.aload_n 0, 1) := by decide +kernel
theorem d_Mo_readRules_57 : decode b_Mo_readRules 57 = .ok (.getfield 7, 3) := by decide +kernel
theorem d_Mo_readRules_60 : decode b_Mo_readRules 60 = .ok (.iload_n 3, 1) := by decide +kernel
theorem d_Mo_readRules_61 : decode b_Mo_readRules 61 = .ok (.iconst 1, 1) := by decide +kernel
theorem d_Mo_readRules_62 : decode b_Mo_readRules 62 = .ok (.iadd, 1) := by decide +kernel
theorem d_Mo_readRules_63 : decode b_Mo_readRules 63 = .ok (.iaload, 1) := by decide +kernel
theorem d_Mo_readRules_64 : decode b_Mo_readRules 64 = .ok (.invokestatic 75, 3) := by decide +kernel
theorem d_Mo_readRules_67 : decode b_Mo_readRules 67 = .ok (.ifCond .lt 71, 3) := by decide +kernel
theorem d_Mo_readRules_70 : decode b_Mo_readRules 70 = .ok (.aload_n 0, 1) := by decide +kernel
theorem d_Mo_readRules_71 : decode b_Mo_readRules 71 = .ok (.getfield 7, 3) := by decide +kernel
theorem d_Mo_readRules_74 : decode b_Mo_readRules 74 = .ok (.iload_n 3, 1) := by decide +kernel
theorem d_Mo_readRules_75 : decode b_Mo_readRules 75 = .ok (.iconst 2, 1) := by decide +kernel
theorem d_Mo_readRules_76 : decode b_Mo_readRules 76 = .ok (.iadd, 1) := by decide +kernel
theorem d_Mo_readRules_77 : decode b_Mo_readRules 77 = .ok (.iaload, 1) := by decide +kernel
theorem d_Mo_readRules_78 : decode b_Mo_readRules 78 = .ok (.bipush 33, 2) := by decide +kernel
theorem d_Mo_readRules_80 : decode b_Mo_readRules 80 = .ok (.if_icmp .eq 16, 3) := by decide +kernel
theorem d_Mo_readRules_83 : decode b_Mo_readRules 83 = .ok (.aload_n 0, 1) := by decide +kernel
theorem d_Mo_readRules_84 : decode b_Mo_readRules 84 = .ok (.getfield 7, 3) := by decide +kernel
theorem d_Mo_readRules_87 : decode b_Mo_readRules 87 = .ok (.iload_n 3, 1) := by decide +kernel
theorem d_Mo_readRules_88 : decode b_Mo_readRules 88 = .ok (.iconst 2, 1) := by decide +kernel
theorem d_Mo_readRules_89 : decode b_Mo_readRules 89 = .ok (.iadd, 1) := by decide +kernel
theorem d_Mo_readRules_90 : decode b_Mo_readRules 90 = .ok (.iaload, 1) := by decide +kernel
theorem d_Mo_readRules_91 : decode b_Mo_readRules 91 = .ok (.bipush 63, 2) := by decide +kernel
theorem d_Mo_readRules_93 : decode b_Mo_readRules 93 = .ok (.if_icmp .ne 45, 3) := by decide +kernel
theorem d_Mo_readRules_96 : decode b_Mo_readRules 96 = .ok (.aload_n 0, 1) := by decide +kernel
theorem d_Mo_readRules_97 : decode b_Mo_readRules 97 = .ok (.getfield 7, 3) := by decide +kernel
theorem d_Mo_readRules_100 : decode b_Mo_readRules 100 = .ok (.iload_n 3, 1) := by decide +kernel
theorem d_Mo_readRules_101 : decode b_Mo_readRules 101 = .ok (.iconst 3, 1) := by decide +kernel
theorem d_Mo_readRules_102 : decode b_Mo_readRules 102 = .ok (.iadd, 1) := by decide +kernel
theorem d_Mo_readRules_103 : decode b_Mo_readRules 103 = .ok (.iaload, 1) := by decide +kernel
theorem d_Mo_readRules_104 : decode b_Mo_readRules 104 = .ok (.bipush 48, 2) := by decide +kernel
theorem d_Mo_readRules_106 : decode b_Mo_readRules 106 = .ok (.bipush 54, 2) := by decide +kernel
theorem d_Mo_readRules_108 : decode b_Mo_readRules 108 = .ok (.invokestatic 60, 3) := by decide +kernel
theorem d_Mo_readRules_111 : decode b_Mo_readRules 111 = .ok (.ifCond .eq 27, 3) := by decide +kernel
theorem d_Mo_readRules_114 : decode b_Mo_readRules 114 = .ok (.iload_n 2, 1) := by decide +kernel
theorem d_Mo_readRules_115 : decode b_Mo_readRules 115 = .ok (.iload_n 1, 1) := by decide +kernel
theorem d_Mo_readRules_116 : decode b_Mo_readRules 116 = .ok (.iconst 1, 1) := by decide +kernel
theorem d_Mo_readRules_117 : decode b_Mo_readRules 117 = .ok (.isub, 1) := by decide +kernel
theorem d_Mo_readRules_118 : decode b_Mo_readRules 118 = .ok (.if_icmp .eq 16, 3) := by decide +kernel
theorem d_Mo_readRules_121 : decode b_Mo_readRules 121 = .ok (.aload_n 0, 1) := by decide +kernel
theorem d_Mo_readRules_122 : decode b_Mo_readRules 122 = .ok (.getfield 7, 3) := by decide +kernel
theorem d_Mo_readRules_125 : decode b_Mo_readRules 125 = .ok (.iload_n 3, 1) := by decide +kernel
theorem d_Mo_readRules_126 : decode b_Mo_readRules 126 = .ok (.iconst 4, 1) := by decide +kernel
theorem d_Mo_readRules_127 : decode b_Mo_readRules 127 = .ok (.iadd, 1) := by decide +kernel
theorem d_Mo_readRules_128 : decode b_Mo_readRules 128 = .ok (.iaload, 1) := by decide +kernel
theorem d_Mo_readRules_129 : decode b_Mo_readRules 129 = .ok (.bipush 44, 2) := by decide +kernel
theorem d_Mo_readRules_131 : decode b_Mo_readRules 131 = .ok (.if_icmp .ne 7, 3) := by decide +kernel
theorem d_Mo_readRules_134 : decode b_Mo_readRules 134 = .ok (.iconst 1, 1) := by decide +kernel
theorem d_Mo_readRules_135 : decode b_Mo_readRules 135 = .ok (.goto 4, 3) := by decide +kernel
theorem d_Mo_readRules_138 : decode b_Mo_readRules 138 = .ok (.iconst 0, 1) := by decide +kernel
theorem d_Mo_readRules_139 : decode b_Mo_readRules 139 = .ok (.istore 4, 2) := by decide +kernel
theorem d_Mo_readRules_141 : decode b_Mo_readRules 141 = .ok (.iconst 0, 1) := by decide +kernel
theorem d_Mo_readRules_142 : decode b_Mo_readRules 142 = .ok (.istore 5, 2) := by decide +kernel
theorem d_Mo_readRules_144 : decode b_Mo_readRules 144 = .ok (.iload 5, 2) := by decide +kernel
theorem d_Mo_readRules_146 : decode b_Mo_readRules 146 = .ok (.iload_n 2, 1) := by decide +kernel
theorem d_Mo_readRules_147 : decode b_Mo_readRules 147 = .ok (.if_icmp .ge 52, 3) := by decide +kernel
theorem d_Mo_readRules_150 : decode b_Mo_readRules 150 = .ok (.aload_n 0, 1) := by decide +kernel
theorem d_Mo_readRules_151 : decode b_Mo_readRules 151 = .ok (.getfield 7, 3) := by decide +kernel
theorem d_Mo_readRules_154 : decode b_Mo_readRules 154 = .ok (.iload 5, 2) := by decide +kernel
theorem d_Mo_readRules_156 : decode b_Mo_readRules 156 = .ok (.iconst 5, 1) := by decide +kernel
theorem d_Mo_readRules_157 : decode b_Mo_readRules 157 = .ok (.imul, 1) := by decide +kernel
theorem d_Mo_readRules_158 : decode b_Mo_readRules 158 = .ok (.iaload, 1) := by decide +kernel
theorem d_Mo_readRules_159 : decode b_Mo_readRules 159 = .ok (.aload_n 0, 1) := by decide +kernel
theorem d_Mo_readRules_160 : decode b_Mo_readRules 160 = .ok (.getfield 7, 3) := by decide +kernel
theorem d_Mo_readRules_163 : decode b_Mo_readRules 163 = .ok (.iload_n 3, 1) := by decide +kernel
theorem d_Mo_readRules_164 : decode b_Mo_readRules 164 = .ok (.iaload, 1) := by decide +kernel
theorem d_Mo_readRules_165 : decode b_Mo_readRules 165 = .ok (.if_icmp .ne 28, 3) := by decide +kernel
theorem d_Mo_readRules_168 : decode b_Mo_readRules 168 = .ok (.aload_n 0, 1) := by decide +kernel
theorem d_Mo_readRules_169 : decode b_Mo_readRules 169 = .ok (.getfield 7, 3) := by decide +kernel
theorem d_Mo_readRules_172 : decode b_Mo_readRules 172 = .ok (.iload 5, 2) := by decide +kernel
theorem d_Mo_readRules_174 : decode b_Mo_readRules 174 = .ok (.iconst 5, 1) := by decide +kernel
theorem d_Mo_readRules_175 : decode b_Mo_readRules 175 = .ok (.imul, 1) := by decide +kernel
theorem d_Mo_readRules_176 : decode b_Mo_readRules 176 = .ok (.iconst 1, 1) := by decide +kernel
theorem d_Mo_readRules_177 : decode b_Mo_readRules 177 = .ok (.iadd, 1) := by decide +kernel
theorem d_Mo_readRules_178 : decode b_Mo_readRules 178 = .ok (.iaload, 1) := by decide +kernel
theorem d_Mo_readRules_179 : decode b_Mo_readRules 179 = .ok (.aload_n 0, 1) := by decide +kernel
theorem d_Mo_readRules_180 : decode b_Mo_readRules 180 = .ok (.getfield 7, 3) := by decide +kernel
theorem d_Mo_readRules_183 : decode b_Mo_readRules 183 = .ok (.iload_n 3, 1) := by decide +kernel
theorem d_Mo_readRules_184 : decode b_Mo_readRules 184 = .ok (.iconst 1, 1) := by decide +kernel
theorem d_Mo_readRules_185 : decode b_Mo_readRules 185 = .ok (.iadd, 1) := by decide +kernel
theorem d_Mo_readRules_186 : decode b_Mo_readRules 186 = .ok (.iaload, 1) := by decide +kernel
theorem d_Mo_readRules_187 : decode b_Mo_readRules 187 = .ok (.if_icmp .ne 6, 3) := by decide +kernel
theorem d_Mo_readRules_190 : decode b_Mo_readRules 190 = .ok (.iconst 0, 1) := by decide +kernel
theorem d_Mo_readRules_191 : decode b_Mo_readRules 191 = .ok (.istore 4, 2) := by decide +kernel
theorem d_Mo_readRules_193 : decode b_Mo_readRules 193 = .ok (.iinc 5 1, 3) := by decide +kernel
theorem d_Mo_readRules_196 : decode b_Mo_readRules 196 = .ok (.goto (-52), 3) := by decide +kernel
theorem d_Mo_readRules_199 : decode b_Mo_readRules 199 = .ok (.iload 4, 2) := by decide +kernel
theorem d_Mo_readRules_201 : decode b_Mo_readRules 201 = .ok (.ifCond .ne 5, 3) := by decide +kernel
theorem d_Mo_readRules_204 : decode b_Mo_readRules 204 = .ok (.iconst 0, 1) := by decide +kernel
theorem d_Mo_readRules_205 : decode b_Mo_readRules 205 = .ok (.ireturn, 1) := by decide +kernel
theorem d_Mo_readRules_206 : decode b_Mo_readRules 206 = .ok (.iinc 2 1, 3) := by decide +kernel
theorem d_Mo_readRules_209 : decode b_Mo_readRules 209 = .ok (.goto (-178), 3) := by decide +kernel
theorem d_Mo_readRules_212 : decode b_Mo_readRules 212 = .ok (.iload_n 1, 1) := by decide +kernel
theorem d_Mo_readRules_213 : decode b_Mo_readRules 213 = .ok (.ireturn, 1) := by decide +kernel
theorem d_Mo_contract_0 : decode b_Mo_contract 0 = .ok (.aload_n 0, 1) := by decide +kernel
theorem d_Mo_contract_1 : decode b_Mo_contract 1 = .ok (.iload_n 1, 1) := by decide +kernel
theorem d_Mo_contract_2 : decode b_Mo_contract 2 = .ok (.iconst 0, 1) := by decide +kernel
theorem d_Mo_contract_3 : decode b_Mo_contract 3 = .ok (.iconst 3, 1) := by decide +kernel
theorem d_Mo_contract_4 : decode b_Mo_contract 4 = .ok (.invokestatic 60, 3) := by decide +kernel
theorem d_Mo_contract_7 : decode b_Mo_contract 7 = .ok (.invokevirtual 64, 3) := by decide +kernel
theorem d_Mo_contract_10 : decode b_Mo_contract 10 = .ok (.ifCond .eq 5, 3) := by decide +kernel
theorem d_Mo_contract_13 : decode b_Mo_contract 13 = .ok (.iconst 0, 1) := by decide +kernel
theorem d_Mo_contract_14 : decode b_Mo_contract 14 = .ok (.ireturn, 1) := by decide +kernel
theorem d_Mo_contract_15 : decode b_Mo_contract 15 = .ok (.aload_n 0, 1) := by decide +kernel
theorem d_Mo_contract_16 : decode b_Mo_contract 16 = .ok (.invokevirtual 78, 3) := by decide +kernel
theorem d_Mo_contract_19 : decode b_Mo_contract 19 = .ok (.istore_n 2, 1) := by decide +kernel
theorem d_Mo_contract_20 : decode b_Mo_contract 20 = .ok (.aload_n 0, 1) := by decide +kernel
theorem d_Mo_contract_21 : decode b_Mo_contract 21 = .ok (.iconst 0, 1) := by decide +kernel
theorem d_Mo_contract_22 : decode b_Mo_contract 22 = .ok (.putfield 68, 3) := by decide +kernel
theorem d_Mo_contract_25 : decode b_Mo_contract 25 = .ok (.aload_n 0, 1) := by decide +kernel
theorem d_Mo_contract_26 : decode b_Mo_contract 26 = .ok (.iload_n 2, 1) := by decide +kernel
theorem d_Mo_contract_27 : decode b_Mo_contract 27 = .ok (.ifCond .le 7, 3) := by decide +kernel
theorem d_Mo_contract_30 : decode b_Mo_contract 30 = .ok (.iconst 1, 1) := by decide +kernel
theorem d_Mo_contract_31 : decode b_Mo_contract 31 = .ok (.goto 4, 3) := by decide +kernel
theorem d_Mo_contract_34 : decode b_Mo_contract 34 = .ok (.iconst 0, 1) := by decide +kernel
theorem d_Mo_contract_35 : decode b_Mo_contract 35 = .ok (.invokevirtual 64, 3) := by decide +kernel
theorem d_Mo_contract_38 : decode b_Mo_contract 38 = .ok (.ifCond .eq 5, 3) := by decide +kernel
theorem d_Mo_contract_41 : decode b_Mo_contract 41 = .ok (.iconst 0, 1) := by decide +kernel
theorem d_Mo_contract_42 : decode b_Mo_contract 42 = .ok (.ireturn, 1) := by decide +kernel
theorem d_Mo_contract_43 : decode b_Mo_contract 43 = .ok (.iconst 0, 1) := by decide +kernel
theorem d_Mo_contract_44 : decode b_Mo_contract 44 = .ok (.istore_n 3, 1) := by decide +kernel
theorem d_Mo_contract_45 : decode b_Mo_contract 45 = .ok (.iload_n 3, 1) := by decide +kernel
theorem d_Mo_contract_46 : decode b_Mo_contract 46 = .ok (.iload_n 2, 1) := by decide +kernel
theorem d_Mo_contract_47 : decode b_Mo_contract 47 = .ok (.if_icmp .ge 111, 3) := by decide +kernel
theorem d_Mo_contract_50 : decode b_Mo_contract 50 = .ok (.iload_n 1, 1) := by decide +kernel
theorem d_Mo_contract_51 : decode b_Mo_contract 51 = .ok (.bipush 36, 2) := by decide +kernel
theorem d_Mo_contract_53 : decode b_Mo_contract 53 = .ok (.imul, 1) := by decide +kernel
theorem d_Mo_contract_54 : decode b_Mo_contract 54 = .ok (.iload_n 3, 1) := by decide +kernel
theorem d_Mo_contract_55 : decode b_Mo_contract 55 = .ok (.iconst 4, 1) := by decide +kernel
theorem d_Mo_contract_56 : decode b_Mo_contract 56 = .ok (.imul, 1) := by decide +kernel
theorem d_Mo_contract_57 : decode b_Mo_contract 57 = .ok (.iadd, 1) := by decide +kernel
theorem d_Mo_contract_58 : decode b_Mo_contract 58 = .ok (.istore 4, 2) := by decide +kernel
theorem d_Mo_contract_60 : decode b_Mo_contract 60 = .ok (.iload_n 3, 1) := by decide +kernel
theorem d_Mo_contract_61 : decode b_Mo_contract 61 = .ok (.iconst 5, 1) := by decide +kernel
theorem d_Mo_contract_62 : decode b_Mo_contract 62 = .ok (.imul, 1) := by decide +kernel
theorem d_Mo_contract_63 : decode b_Mo_contract 63 = .ok (.istore 5, 2) := by decide +kernel
theorem d_Mo_contract_65 : decode b_Mo_contract 65 = .ok (.aload_n 0, 1) := by decide +kernel
theorem d_Mo_contract_66 : decode b_Mo_contract 66 = .ok (.getfield 13, 3) := by decide +kernel
theorem d_Mo_contract_69 : decode b_Mo_contract 69 = .ok (.iload 4, 2) := by decide +kernel
theorem d_Mo_contract_71 : decode b_Mo_contract 71 = .ok (.aload_n 0, 1) := by decide +kernel
theorem d_Mo_contract_72 : decode b_Mo_contract 72 = .ok (.getfield 7, 3) := by decide +kernel
theorem d_Mo_contract_75 : decode b_Mo_contract 75 = .ok (.iload 5, 2) := by decide +kernel
theorem d_Mo_contract_77 : decode b_Mo_contract 77 = .ok (.iaload, 1) := by decide +kernel
theorem d_Mo_contract_78 : decode b_Mo_contract 78 = .ok (.bipush 48, 2) := by decide +kernel
theorem d_Mo_contract_80 : decode b_Mo_contract 80 = .ok (.isub, 1) := by decide +kernel
theorem d_Mo_contract_81 : decode b_Mo_contract 81 = .ok (.iastore, 1) := by decide +kernel
theorem d_Mo_contract_82 : decode b_Mo_contract 82 = .ok (.aload_n 0, 1) := by decide +kernel
theorem d_Mo_contract_83 : decode b_Mo_contract 83 = .ok (.getfield 13, 3) := by decide +kernel
theorem d_Mo_contract_86 : decode b_Mo_contract 86 = .ok (.iload 4, 2) := by decide +kernel
theorem d_Mo_contract_88 : decode b_Mo_contract 88 = .ok (.iconst 1, 1) := by decide +kernel
theorem d_Mo_contract_89 : decode b_Mo_contract 89 = .ok (.iadd, 1) := by decide +kernel
theorem d_Mo_contract_90 : decode b_Mo_contract 90 = .ok (.aload_n 0, 1) := by decide +kernel
theorem d_Mo_contract_91 : decode b_Mo_contract 91 = .ok (.getfield 7, 3) := by decide +kernel
theorem d_Mo_contract_94 : decode b_Mo_contract 94 = .ok (.iload 5, 2) := by decide +kernel
theorem d_Mo_contract_96 : decode b_Mo_contract 96 = .ok (.iconst 1, 1) := by decide +kernel
theorem d_Mo_contract_97 : decode b_Mo_contract 97 = .ok (.iadd, 1) := by decide +kernel
theorem d_Mo_contract_98 : decode b_Mo_contract 98 = .ok (.iaload, 1) := by decide +kernel
theorem d_Mo_contract_99 : decode b_Mo_contract 99 = .ok (.invokestatic 75, 3) := by decide +kernel
theorem d_Mo_contract_102 : decode b_Mo_contract 102 = .ok (.iastore, 1) := by decide +kernel
theorem d_Mo_contract_103 : decode b_Mo_contract 103 = .ok (.aload_n 0, 1) := by decide +kernel
theorem d_Mo_contract_104 : decode b_Mo_contract 104 = .ok (.getfield 13, 3) := by decide +kernel
theorem d_Mo_contract_107 : decode b_Mo_contract 107 = .ok (.iload 4, 2) := by decide +kernel
theorem d_Mo_contract_109 : decode b_Mo_contract 109 = .ok (.iconst 2, 1) := by decide +kernel
theorem d_Mo_contract_110 : decode b_Mo_contract 110 = .ok (.iadd, 1) := by decide +kernel
theorem d_Mo_contract_111 : decode b_Mo_contract 111 = .ok (.aload_n 0, 1) := by decide +kernel
theorem d_Mo_contract_112 : decode b_Mo_contract 112 = .ok (.getfield 7, 3) := by decide +kernel
theorem d_Mo_contract_115 : decode b_Mo_contract 115 = .ok (.iload 5, 2) := by decide +kernel
theorem d_Mo_contract_117 : decode b_Mo_contract 117 = .ok (.iconst 2, 1) := by decide +kernel
theorem d_Mo_contract_118 : decode b_Mo_contract 118 = .ok (.iadd, 1) := by decide +kernel
theorem d_Mo_contract_119 : decode b_Mo_contract 119 = .ok (.iaload, 1) := by decide +kernel
theorem d_Mo_contract_120 : decode b_Mo_contract 120 = .ok (.bipush 33, 2) := by decide +kernel
theorem d_Mo_contract_122 : decode b_Mo_contract 122 = .ok (.if_icmp .ne 7, 3) := by decide +kernel
theorem d_Mo_contract_125 : decode b_Mo_contract 125 = .ok (.iconst 0, 1) := by decide +kernel
theorem d_Mo_contract_126 : decode b_Mo_contract 126 = .ok (.goto 4, 3) := by decide +kernel
theorem d_Mo_contract_129 : decode b_Mo_contract 129 = .ok (.iconst 1, 1) := by decide +kernel
theorem d_Mo_contract_130 : decode b_Mo_contract 130 = .ok (.iastore, 1) := by decide +kernel
theorem d_Mo_contract_131 : decode b_Mo_contract 131 = .ok (.aload_n 0, 1) := by decide +kernel
theorem d_Mo_contract_132 : decode b_Mo_contract 132 = .ok (.getfield 13, 3) := by decide +kernel
theorem d_Mo_contract_135 : decode b_Mo_contract 135 = .ok (.iload 4, 2) := by decide +kernel
theorem d_Mo_contract_137 : decode b_Mo_contract 137 = .ok (.iconst 3, 1) := by decide +kernel
theorem d_Mo_contract_138 : decode b_Mo_contract 138 = .ok (.iadd, 1) := by decide +kernel
theorem d_Mo_contract_139 : decode b_Mo_contract 139 = .ok (.aload_n 0, 1) := by decide +kernel
theorem d_Mo_contract_140 : decode b_Mo_contract 140 = .ok (.getfield 7, 3) := by decide +kernel
theorem d_Mo_contract_143 : decode b_Mo_contract 143 = .ok (.iload 5, 2) := by decide +kernel
theorem d_Mo_contract_145 : decode b_Mo_contract 145 = .ok (.iconst 3, 1) := by decide +kernel
theorem d_Mo_contract_146 : decode b_Mo_contract 146 = .ok (.iadd, 1) := by decide +kernel
theorem d_Mo_contract_147 : decode b_Mo_contract 147 = .ok (.iaload, 1) := by decide +kernel
theorem d_Mo_contract_148 : decode b_Mo_contract 148 = .ok (.bipush 48, 2) := by decide +kernel
theorem d_Mo_contract_150 : decode b_Mo_contract 150 = .ok (.isub, 1) := by decide +kernel
theorem d_Mo_contract_151 : decode b_Mo_contract 151 = .ok (.iastore, 1) := by decide +kernel
theorem d_Mo_contract_152 : decode b_Mo_contract 152 = .ok (.iinc 3 1, 3) := by decide +kernel
theorem d_Mo_contract_155 : decode b_Mo_contract 155 = .ok (.goto (-110), 3) := by decide +kernel
theorem d_Mo_contract_158 : decode b_Mo_contract 158 = .ok (.aload_n 0, 1) := by decide +kernel
theorem d_Mo_contract_159 : decode b_Mo_contract 159 = .ok (.getfield 16, 3) := by decide +kernel
theorem d_Mo_contract_162 : decode b_Mo_contract 162 = .ok (.iload_n 1, 1) := by decide +kernel
theorem d_Mo_contract_163 : decode b_Mo_contract 163 = .ok (.iload_n 2, 1) := by decide +kernel
theorem d_Mo_contract_164 : decode b_Mo_contract 164 = .ok (.iastore, 1) := by decide +kernel
theorem d_Mo_contract_165 : decode b_Mo_contract 165 = .ok (.iload_n 2, 1) := by decide +kernel
theorem d_Mo_contract_166 : decode b_Mo_contract 166 = .ok (.ireturn, 1) := by decide +kernel
theorem d_Mo_lets_0 : decode b_Mo_lets 0 = .ok (.iload_n 1, 1) := by decide +kernel
theorem d_Mo_lets_1 : decode b_Mo_lets 1 = .ok (.iconst 2, 1) := by decide +kernel
theorem d_Mo_lets_2 : decode b_Mo_lets 2 = .ok (.idiv, 1) := by decide +kernel
theorem d_Mo_lets_3 : decode b_Mo_lets 3 = .ok (.istore 4, 2) := by decide +kernel
theorem d_Mo_lets_5 : decode b_Mo_lets 5 = .ok (.iconst 0, 1) := by decide +kernel
theorem d_Mo_lets_6 : decode b_Mo_lets 6 = .ok (.istore 5, 2) := by decide +kernel
theorem d_Mo_lets_8 : decode b_Mo_lets 8 = .ok (.iload 5, 2) := by decide +kernel
theorem d_Mo_lets_10 : decode b_Mo_lets 10 = .ok (.aload_n 0, 1) := by decide +kernel
theorem d_Mo_lets_11 : decode b_Mo_lets 11 = .ok (.getfield 22, 3) := by decide +kernel
theorem d_Mo_lets_14 : decode b_Mo_lets 14 = .ok (.iload 4, 2) := by decide +kernel
theorem d_Mo_lets_16 : decode b_Mo_lets 16 = .ok (.iaload, 1) := by decide +kernel
theorem d_Mo_lets_17 : decode b_Mo_lets 17 = .ok (.if_icmp .ge 81, 3) := by decide +kernel
theorem d_Mo_lets_20 : decode b_Mo_lets 20 = .ok (.iload 4, 2) := by decide +kernel
theorem d_Mo_lets_22 : decode b_Mo_lets 22 = .ok (.bipush 36, 2) := by decide +kernel
theorem d_Mo_lets_24 : decode b_Mo_lets 24 = .ok (.imul, 1) := by decide +kernel
theorem d_Mo_lets_25 : decode b_Mo_lets 25 = .ok (.iload 5, 2) := by decide +kernel
theorem d_Mo_lets_27 : decode b_Mo_lets 27 = .ok (.iconst 4, 1) := by decide +kernel
theorem d_Mo_lets_28 : decode b_Mo_lets 28 = .ok (.imul, 1) := by decide +kernel
theorem d_Mo_lets_29 : decode b_Mo_lets 29 = .ok (.iadd, 1) := by decide +kernel
theorem d_Mo_lets_30 : decode b_Mo_lets 30 = .ok (.istore 6, 2) := by decide +kernel
theorem d_Mo_lets_32 : decode b_Mo_lets 32 = .ok (.aload_n 0, 1) := by decide +kernel
theorem d_Mo_lets_33 : decode b_Mo_lets 33 = .ok (.getfield 19, 3) := by decide +kernel
theorem d_Mo_lets_36 : decode b_Mo_lets 36 = .ok (.iload 6, 2) := by decide +kernel
theorem d_Mo_lets_38 : decode b_Mo_lets 38 = .ok (.iaload, 1) := by decide +kernel
theorem d_Mo_lets_39 : decode b_Mo_lets 39 = .ok (.aload_n 0, 1) := by decide +kernel
theorem d_Mo_lets_40 : decode b_Mo_lets 40 = .ok (.getfield 41, 3) := by decide +kernel
theorem d_Mo_lets_43 : decode b_Mo_lets 43 = .ok (.iload_n 1, 1) := by decide +kernel
theorem d_Mo_lets_44 : decode b_Mo_lets 44 = .ok (.iaload, 1) := by decide +kernel
theorem d_Mo_lets_45 : decode b_Mo_lets 45 = .ok (.if_icmp .ne 47, 3) := by decide +kernel
theorem d_Mo_lets_48 : decode b_Mo_lets 48 = .ok (.aload_n 0, 1) := by decide +kernel
theorem d_Mo_lets_49 : decode b_Mo_lets 49 = .ok (.getfield 19, 3) := by decide +kernel
theorem d_Mo_lets_52 : decode b_Mo_lets 52 = .ok (.iload 6, 2) := by decide +kernel
theorem d_Mo_lets_54 : decode b_Mo_lets 54 = .ok (.iconst 1, 1) := by decide +kernel
theorem d_Mo_lets_55 : decode b_Mo_lets 55 = .ok (.iadd, 1) := by decide +kernel
theorem d_Mo_lets_56 : decode b_Mo_lets 56 = .ok (.iaload, 1) := by decide +kernel
theorem d_Mo_lets_57 : decode b_Mo_lets 57 = .ok (.iload_n 2, 1) := by decide +kernel
theorem d_Mo_lets_58 : decode b_Mo_lets 58 = .ok (.if_icmp .ne 34, 3) := by decide +kernel
theorem d_Mo_lets_61 : decode b_Mo_lets 61 = .ok (.aload_n 0, 1) := by decide +kernel
theorem d_Mo_lets_62 : decode b_Mo_lets 62 = .ok (.getfield 19, 3) := by decide +kernel
theorem d_Mo_lets_65 : decode b_Mo_lets 65 = .ok (.iload 6, 2) := by decide +kernel
theorem d_Mo_lets_67 : decode b_Mo_lets 67 = .ok (.iconst 2, 1) := by decide +kernel
theorem d_Mo_lets_68 : decode b_Mo_lets 68 = .ok (.iadd, 1) := by decide +kernel
theorem d_Mo_lets_69 : decode b_Mo_lets 69 = .ok (.iaload, 1) := by decide +kernel
theorem d_Mo_lets_70 : decode b_Mo_lets 70 = .ok (.iload_n 3, 1) := by decide +kernel
theorem d_Mo_lets_71 : decode b_Mo_lets 71 = .ok (.if_icmp .eq 6, 3) := by decide +kernel
theorem d_Mo_lets_74 : decode b_Mo_lets 74 = .ok (.goto 18, 3) := by decide +kernel
theorem d_Mo_lets_77 : decode b_Mo_lets 77 = .ok (.aload_n 0, 1) := by decide +kernel
theorem d_Mo_lets_78 : decode b_Mo_lets 78 = .ok (.aload_n 0, 1) := by decide +kernel
theorem d_Mo_lets_79 : decode b_Mo_lets 79 = .ok (.getfield 19, 3) := by decide +kernel
theorem d_Mo_lets_82 : decode b_Mo_lets 82 = .ok (.iload 6, 2) := by decide +kernel
theorem d_Mo_lets_84 : decode b_Mo_lets 84 = .ok (.iconst 3, 1) := by decide +kernel
theorem d_Mo_lets_85 : decode b_Mo_lets 85 = .ok (.iadd, 1) := by decide +kernel
theorem d_Mo_lets_86 : decode b_Mo_lets 86 = .ok (.iaload, 1) := by decide +kernel
theorem d_Mo_lets_87 : decode b_Mo_lets 87 = .ok (.putfield 82, 3) := by decide +kernel
theorem d_Mo_lets_90 : decode b_Mo_lets 90 = .ok (.iconst 1, 1) := by decide +kernel
theorem d_Mo_lets_91 : decode b_Mo_lets 91 = .ok (.ireturn, 1) := by decide +kernel
theorem d_Mo_lets_92 : decode b_Mo_lets 92 = .ok (.iinc 5 1, 3) := by decide +kernel
theorem d_Mo_lets_95 : decode b_Mo_lets 95 = .ok (.goto (-87), 3) := by decide +kernel
theorem d_Mo_lets_98 : decode b_Mo_lets 98 = .ok (.iconst 0, 1) := by decide +kernel
theorem d_Mo_lets_99 : decode b_Mo_lets 99 = .ok (.ireturn, 1) := by decide +kernel
theorem d_Mo_freeBlock_0 : decode b_Mo_freeBlock 0 = .ok (.aload_n 0, 1) := by decide +kernel
theorem d_Mo_freeBlock_1 : decode b_Mo_freeBlock 1 = .ok (.getfield 29, 3) := by decide +kernel
theorem d_Mo_freeBlock_4 : decode b_Mo_freeBlock 4 = .ok (.iload_n 1, 1) := by decide +kernel
theorem d_Mo_freeBlock_5 : decode b_Mo_freeBlock 5 = .ok (.iconst (-1), 1) := by decide +kernel
theorem d_Mo_freeBlock_6 : decode b_Mo_freeBlock 6 = .ok (.iastore, 1) := by decide +kernel
theorem d_Mo_freeBlock_7 : decode b_Mo_freeBlock 7 = .ok (.aload_n 0, 1) := by decide +kernel
theorem d_Mo_freeBlock_8 : decode b_Mo_freeBlock 8 = .ok (.getfield 32, 3) := by decide +kernel
theorem d_Mo_freeBlock_11 : decode b_Mo_freeBlock 11 = .ok (.iload_n 1, 1) := by decide +kernel
theorem d_Mo_freeBlock_12 : decode b_Mo_freeBlock 12 = .ok (.iconst 0, 1) := by decide +kernel
theorem d_Mo_freeBlock_13 : decode b_Mo_freeBlock 13 = .ok (.iastore, 1) := by decide +kernel
theorem d_Mo_freeBlock_14 : decode b_Mo_freeBlock 14 = .ok (.aload_n 0, 1) := by decide +kernel
theorem d_Mo_freeBlock_15 : decode b_Mo_freeBlock 15 = .ok (.dup, 1) := by decide +kernel
theorem d_Mo_freeBlock_16 : decode b_Mo_freeBlock 16 = .ok (.getfield 85, 3) := by decide +kernel
theorem d_Mo_freeBlock_19 : decode b_Mo_freeBlock 19 = .ok (.iconst 1, 1) := by decide +kernel
theorem d_Mo_freeBlock_20 : decode b_Mo_freeBlock 20 = .ok (.iadd, 1) := by decide +kernel
theorem d_Mo_freeBlock_21 : decode b_Mo_freeBlock 21 = .ok (.putfield 85, 3) := by decide +kernel
theorem d_Mo_freeBlock_24 : decode b_Mo_freeBlock 24 = .ok (.return_, 1) := by decide +kernel
theorem d_Mo_closeEnd_0 : decode b_Mo_closeEnd 0 = .ok (.aload_n 0, 1) := by decide +kernel
theorem d_Mo_closeEnd_1 : decode b_Mo_closeEnd 1 = .ok (.getfield 38, 3) := by decide +kernel
theorem d_Mo_closeEnd_4 : decode b_Mo_closeEnd 4 = .ok (.iload_n 1, 1) := by decide +kernel
theorem d_Mo_closeEnd_5 : decode b_Mo_closeEnd 5 = .ok (.iconst (-1), 1) := by decide +kernel
theorem d_Mo_closeEnd_6 : decode b_Mo_closeEnd 6 = .ok (.iastore, 1) := by decide +kernel
theorem d_Mo_closeEnd_7 : decode b_Mo_closeEnd 7 = .ok (.aload_n 0, 1) := by decide +kernel
theorem d_Mo_closeEnd_8 : decode b_Mo_closeEnd 8 = .ok (.dup, 1) := by decide +kernel
theorem d_Mo_closeEnd_9 : decode b_Mo_closeEnd 9 = .ok (.getfield 85, 3) := by decide +kernel
theorem d_Mo_closeEnd_12 : decode b_Mo_closeEnd 12 = .ok (.iconst 1, 1) := by decide +kernel
theorem d_Mo_closeEnd_13 : decode b_Mo_closeEnd 13 = .ok (.iadd, 1) := by decide +kernel
theorem d_Mo_closeEnd_14 : decode b_Mo_closeEnd 14 = .ok (.putfield 85, 3) := by decide +kernel
theorem d_Mo_closeEnd_17 : decode b_Mo_closeEnd 17 = .ok (.aload_n 0, 1) := by decide +kernel
theorem d_Mo_closeEnd_18 : decode b_Mo_closeEnd 18 = .ok (.getfield 53, 3) := by decide +kernel
theorem d_Mo_closeEnd_21 : decode b_Mo_closeEnd 21 = .ok (.aload_n 0, 1) := by decide +kernel
theorem d_Mo_closeEnd_22 : decode b_Mo_closeEnd 22 = .ok (.getfield 88, 3) := by decide +kernel
theorem d_Mo_closeEnd_25 : decode b_Mo_closeEnd 25 = .ok (.iload_n 1, 1) := by decide +kernel
theorem d_Mo_closeEnd_26 : decode b_Mo_closeEnd 26 = .ok (.iastore, 1) := by decide +kernel
theorem d_Mo_closeEnd_27 : decode b_Mo_closeEnd 27 = .ok (.aload_n 0, 1) := by decide +kernel
theorem d_Mo_closeEnd_28 : decode b_Mo_closeEnd 28 = .ok (.dup, 1) := by decide +kernel
theorem d_Mo_closeEnd_29 : decode b_Mo_closeEnd 29 = .ok (.getfield 88, 3) := by decide +kernel
theorem d_Mo_closeEnd_32 : decode b_Mo_closeEnd 32 = .ok (.iconst 1, 1) := by decide +kernel
theorem d_Mo_closeEnd_33 : decode b_Mo_closeEnd 33 = .ok (.iadd, 1) := by decide +kernel
theorem d_Mo_closeEnd_34 : decode b_Mo_closeEnd 34 = .ok (.putfield 88, 3) := by decide +kernel
theorem d_Mo_closeEnd_37 : decode b_Mo_closeEnd 37 = .ok (.return_, 1) := by decide +kernel
theorem d_Mo_clear_0 : decode b_Mo_clear 0 = .ok (.iconst 0, 1) := by decide +kernel
theorem d_Mo_clear_1 : decode b_Mo_clear 1 = .ok (.istore_n 1, 1) := by decide +kernel
theorem d_Mo_clear_2 : decode b_Mo_clear 2 = .ok (.iload_n 1, 1) := by decide +kernel
theorem d_Mo_clear_3 : decode b_Mo_clear 3 = .ok (.aload_n 0, 1) := by decide +kernel
theorem d_Mo_clear_4 : decode b_Mo_clear 4 = .ok (.getfield 88, 3) := by decide +kernel
theorem d_Mo_clear_7 : decode b_Mo_clear 7 = .ok (.if_icmp .ge 123, 3) := by decide +kernel
theorem d_Mo_clear_10 : decode b_Mo_clear 10 = .ok (.aload_n 0, 1) := by decide +kernel
theorem d_Mo_clear_11 : decode b_Mo_clear 11 = .ok (.getfield 53, 3) := by decide +kernel
theorem d_Mo_clear_14 : decode b_Mo_clear 14 = .ok (.iload_n 1, 1) := by decide +kernel
theorem d_Mo_clear_15 : decode b_Mo_clear 15 = .ok (.iaload, 1) := by decide +kernel
theorem d_Mo_clear_16 : decode b_Mo_clear 16 = .ok (.istore_n 2, 1) := by decide +kernel
theorem d_Mo_clear_17 : decode b_Mo_clear 17 = .ok (.iload_n 2, 1) := by decide +kernel
theorem d_Mo_clear_18 : decode b_Mo_clear 18 = .ok (.iconst 3, 1) := by decide +kernel
theorem d_Mo_clear_19 : decode b_Mo_clear 19 = .ok (.imul, 1) := by decide +kernel
theorem d_Mo_clear_20 : decode b_Mo_clear 20 = .ok (.istore_n 3, 1) := by decide +kernel
theorem d_Mo_clear_21 : decode b_Mo_clear 21 = .ok (.iload_n 3, 1) := by decide +kernel
theorem d_Mo_clear_22 : decode b_Mo_clear 22 = .ok (.iload_n 2, 1) := by decide +kernel
theorem d_Mo_clear_23 : decode b_Mo_clear 23 = .ok (.iconst 3, 1) := by decide +kernel
theorem d_Mo_clear_24 : decode b_Mo_clear 24 = .ok (.imul, 1) := by decide +kernel
theorem d_Mo_clear_25 : decode b_Mo_clear 25 = .ok (.aload_n 0, 1) := by decide +kernel
theorem d_Mo_clear_26 : decode b_Mo_clear 26 = .ok (.getfield 44, 3) := by decide +kernel
theorem d_Mo_clear_29 : decode b_Mo_clear 29 = .ok (.iload_n 2, 1) := by decide +kernel
theorem d_Mo_clear_30 : decode b_Mo_clear 30 = .ok (.iaload, 1) := by decide +kernel
theorem d_Mo_clear_31 : decode b_Mo_clear 31 = .ok (.iadd, 1) := by decide +kernel
theorem d_Mo_clear_32 : decode b_Mo_clear 32 = .ok (.if_icmp .ge 78, 3) := by decide +kernel
theorem d_Mo_clear_35 : decode b_Mo_clear 35 = .ok (.aload_n 0, 1) := by decide +kernel
theorem d_Mo_clear_36 : decode b_Mo_clear 36 = .ok (.dup, 1) := by decide +kernel
theorem d_Mo_clear_37 : decode b_Mo_clear 37 = .ok (.getfield 91, 3) := by decide +kernel
theorem d_Mo_clear_40 : decode b_Mo_clear 40 = .ok (.iconst 1, 1) := by decide +kernel
theorem d_Mo_clear_41 : decode b_Mo_clear 41 = .ok (.iadd, 1) := by decide +kernel
theorem d_Mo_clear_42 : decode b_Mo_clear 42 = .ok (.putfield 91, 3) := by decide +kernel
theorem d_Mo_clear_45 : decode b_Mo_clear 45 = .ok (.aload_n 0, 1) := by decide +kernel
theorem d_Mo_clear_46 : decode b_Mo_clear 46 = .ok (.getfield 47, 3) := by decide +kernel
theorem d_Mo_clear_49 : decode b_Mo_clear 49 = .ok (.iload_n 3, 1) := by decide +kernel
theorem d_Mo_clear_50 : decode b_Mo_clear 50 = .ok (.iaload, 1) := by decide +kernel
theorem d_Mo_clear_51 : decode b_Mo_clear 51 = .ok (.iconst 3, 1) := by decide +kernel
theorem d_Mo_clear_52 : decode b_Mo_clear 52 = .ok (.iconst 5, 1) := by decide +kernel
theorem d_Mo_clear_53 : decode b_Mo_clear 53 = .ok (.invokestatic 60, 3) := by decide +kernel
theorem d_Mo_clear_56 : decode b_Mo_clear 56 = .ok (.ifCond .eq 13, 3) := by decide +kernel
theorem d_Mo_clear_59 : decode b_Mo_clear 59 = .ok (.aload_n 0, 1) := by decide +kernel
theorem d_Mo_clear_60 : decode b_Mo_clear 60 = .ok (.aload_n 0, 1) := by decide +kernel
theorem d_Mo_clear_61 : decode b_Mo_clear 61 = .ok (.getfield 50, 3) := by decide +kernel
theorem d_Mo_clear_64 : decode b_Mo_clear 64 = .ok (.iload_n 3, 1) := by decide +kernel
theorem d_Mo_clear_65 : decode b_Mo_clear 65 = .ok (.iaload, 1) := by decide +kernel
theorem d_Mo_clear_66 : decode b_Mo_clear 66 = .ok (.invokevirtual 94, 3) := by decide +kernel
theorem d_Mo_clear_69 : decode b_Mo_clear 69 = .ok (.aload_n 0, 1) := by decide +kernel
theorem d_Mo_clear_70 : decode b_Mo_clear 70 = .ok (.getfield 47, 3) := by decide +kernel
theorem d_Mo_clear_73 : decode b_Mo_clear 73 = .ok (.iload_n 3, 1) := by decide +kernel
theorem d_Mo_clear_74 : decode b_Mo_clear 74 = .ok (.iaload, 1) := by decide +kernel
theorem d_Mo_clear_75 : decode b_Mo_clear 75 = .ok (.bipush 6, 2) := by decide +kernel
theorem d_Mo_clear_77 : decode b_Mo_clear 77 = .ok (.if_icmp .ne 27, 3) := by decide +kernel
theorem d_Mo_clear_80 : decode b_Mo_clear 80 = .ok (.aload_n 0, 1) := by decide +kernel
theorem d_Mo_clear_81 : decode b_Mo_clear 81 = .ok (.getfield 38, 3) := by decide +kernel
theorem d_Mo_clear_84 : decode b_Mo_clear 84 = .ok (.aload_n 0, 1) := by decide +kernel
theorem d_Mo_clear_85 : decode b_Mo_clear 85 = .ok (.getfield 50, 3) := by decide +kernel
theorem d_Mo_clear_88 : decode b_Mo_clear 88 = .ok (.iload_n 3, 1) := by decide +kernel
theorem d_Mo_clear_89 : decode b_Mo_clear 89 = .ok (.iaload, 1) := by decide +kernel
theorem d_Mo_clear_90 : decode b_Mo_clear 90 = .ok (.iaload, 1) := by decide +kernel
theorem d_Mo_clear_91 : decode b_Mo_clear 91 = .ok (.ifCond .lt 13, 3) := by decide +kernel
theorem d_Mo_clear_94 : decode b_Mo_clear 94 = .ok (.aload_n 0, 1) := by decide +kernel
theorem d_Mo_clear_95 : decode b_Mo_clear 95 = .ok (.aload_n 0, 1) := by decide +kernel
theorem d_Mo_clear_96 : decode b_Mo_clear 96 = .ok (.getfield 50, 3) := by decide +kernel
theorem d_Mo_clear_99 : decode b_Mo_clear 99 = .ok (.iload_n 3, 1) := by decide +kernel
theorem d_Mo_clear_100 : decode b_Mo_clear 100 = .ok (.iaload, 1) := by decide +kernel
theorem d_Mo_clear_101 : decode b_Mo_clear 101 = .ok (.invokevirtual 98, 3) := by decide +kernel
theorem d_Mo_clear_104 : decode b_Mo_clear 104 = .ok (.iinc 3 1, 3) := by decide +kernel
theorem d_Mo_clear_107 : decode b_Mo_clear 107 = .ok (.goto (-86), 3) := by decide +kernel
theorem d_Mo_clear_110 : decode b_Mo_clear 110 = .ok (.aload_n 0, 1) := by decide +kernel
theorem d_Mo_clear_111 : decode b_Mo_clear 111 = .ok (.getfield 44, 3) := by decide +kernel
theorem d_Mo_clear_114 : decode b_Mo_clear 114 = .ok (.iload_n 2, 1) := by decide +kernel
theorem d_Mo_clear_115 : decode b_Mo_clear 115 = .ok (.iconst 0, 1) := by decide +kernel
theorem d_Mo_clear_116 : decode b_Mo_clear 116 = .ok (.iastore, 1) := by decide +kernel
theorem d_Mo_clear_117 : decode b_Mo_clear 117 = .ok (.aload_n 0, 1) := by decide +kernel
theorem d_Mo_clear_118 : decode b_Mo_clear 118 = .ok (.getfield 41, 3) := by decide +kernel
theorem d_Mo_clear_121 : decode b_Mo_clear 121 = .ok (.iload_n 2, 1) := by decide +kernel
theorem d_Mo_clear_122 : decode b_Mo_clear 122 = .ok (.iconst 0, 1) := by decide +kernel
theorem d_Mo_clear_123 : decode b_Mo_clear 123 = .ok (.iastore, 1) := by decide +kernel
theorem d_Mo_clear_124 : decode b_Mo_clear 124 = .ok (.iinc 1 1, 3) := by decide +kernel
theorem d_Mo_clear_127 : decode b_Mo_clear 127 = .ok (.goto (-125), 3) := by decide +kernel
theorem d_Mo_clear_130 : decode b_Mo_clear 130 = .ok (.aload_n 0, 1) := by decide +kernel
theorem d_Mo_clear_131 : decode b_Mo_clear 131 = .ok (.iconst 0, 1) := by decide +kernel
theorem d_Mo_clear_132 : decode b_Mo_clear 132 = .ok (.putfield 88, 3) := by decide +kernel
theorem d_Mo_clear_135 : decode b_Mo_clear 135 = .ok (.return_, 1) := by decide +kernel
theorem d_Mo_start_0 : decode b_Mo_start 0 = .ok (.aload_n 0, 1) := by decide +kernel
theorem d_Mo_start_1 : decode b_Mo_start 1 = .ok (.iconst 0, 1) := by decide +kernel
theorem d_Mo_start_2 : decode b_Mo_start 2 = .ok (.putfield 56, 3) := by decide +kernel
theorem d_Mo_start_5 : decode b_Mo_start 5 = .ok (.iconst 0, 1) := by decide +kernel
theorem d_Mo_start_6 : decode b_Mo_start 6 = .ok (.istore_n 1, 1) := by decide +kernel
theorem d_Mo_start_7 : decode b_Mo_start 7 = .ok (.iload_n 1, 1) := by decide +kernel
theorem d_Mo_start_8 : decode b_Mo_start 8 = .ok (.iconst 4, 1) := by decide +kernel
theorem d_Mo_start_9 : decode b_Mo_start 9 = .ok (.if_icmp .ge 30, 3) := by decide +kernel
theorem d_Mo_start_12 : decode b_Mo_start 12 = .ok (.aload_n 0, 1) := by decide +kernel
theorem d_Mo_start_13 : decode b_Mo_start 13 = .ok (.getfield 25, 3) := by decide +kernel
theorem d_Mo_start_16 : decode b_Mo_start 16 = .ok (.iload_n 1, 1) := by decide +kernel
theorem d_Mo_start_17 : decode b_Mo_start 17 = .ok (.baload, 1) := by decide +kernel
theorem d_Mo_start_18 : decode b_Mo_start 18 = .ok (.ifCond .eq 6, 3) := by decide +kernel
theorem d_Mo_start_21 : decode b_Mo_start 21 = .ok (.goto 12, 3) := by decide +kernel
theorem d_Mo_start_24 : decode b_Mo_start 24 = .ok (.aload_n 0, 1) := by decide +kernel
theorem d_Mo_start_25 : decode b_Mo_start 25 = .ok (.getfield 25, 3) := by decide +kernel
theorem d_Mo_start_28 : decode b_Mo_start 28 = .ok (.iload_n 1, 1) := by decide +kernel
theorem d_Mo_start_29 : decode b_Mo_start 29 = .ok (.iconst 1, 1) := by decide +kernel
theorem d_Mo_start_30 : decode b_Mo_start 30 = .ok (.bastore, 1) := by decide +kernel
theorem d_Mo_start_31 : decode b_Mo_start 31 = .ok (.iload_n 1, 1) := by decide +kernel
theorem d_Mo_start_32 : decode b_Mo_start 32 = .ok (.ireturn, 1) := by decide +kernel
theorem d_Mo_start_33 : decode b_Mo_start 33 = .ok (.iinc 1 1, 3) := by decide +kernel
theorem d_Mo_start_36 : decode b_Mo_start 36 = .ok (.goto (-29), 3) := by decide +kernel
theorem d_Mo_start_39 : decode b_Mo_start 39 = .ok (.aload_n 0, 1) := by decide +kernel
theorem d_Mo_start_40 : decode b_Mo_start 40 = .ok (.iconst 1, 1) := by decide +kernel
theorem d_Mo_start_41 : decode b_Mo_start 41 = .ok (.invokevirtual 71, 3) := by decide +kernel
theorem d_Mo_start_44 : decode b_Mo_start 44 = .ok (.ireturn, 1) := by decide +kernel
theorem d_Mo_kill_0 : decode b_Mo_kill 0 = .ok (.aload_n 0, 1) := by decide +kernel
theorem d_Mo_kill_1 : decode b_Mo_kill 1 = .ok (.iload_n 1, 1) := by decide +kernel
theorem d_Mo_kill_2 : decode b_Mo_kill 2 = .ok (.iconst 0, 1) := by decide +kernel
theorem d_Mo_kill_3 : decode b_Mo_kill 3 = .ok (.iconst 3, 1) := by decide +kernel
theorem d_Mo_kill_4 : decode b_Mo_kill 4 = .ok (.invokestatic 60, 3) := by decide +kernel
theorem d_Mo_kill_7 : decode b_Mo_kill 7 = .ok (.invokevirtual 64, 3) := by decide +kernel
theorem d_Mo_kill_10 : decode b_Mo_kill 10 = .ok (.ifCond .eq 5, 3) := by decide +kernel
theorem d_Mo_kill_13 : decode b_Mo_kill 13 = .ok (.iconst 0, 1) := by decide +kernel
theorem d_Mo_kill_14 : decode b_Mo_kill 14 = .ok (.ireturn, 1) := by decide +kernel
theorem d_Mo_kill_15 : decode b_Mo_kill 15 = .ok (.aload_n 0, 1) := by decide +kernel
theorem d_Mo_kill_16 : decode b_Mo_kill 16 = .ok (.getfield 25, 3) := by decide +kernel
theorem d_Mo_kill_19 : decode b_Mo_kill 19 = .ok (.iload_n 1, 1) := by decide +kernel
theorem d_Mo_kill_20 : decode b_Mo_kill 20 = .ok (.baload, 1) := by decide +kernel
theorem d_Mo_kill_21 : decode b_Mo_kill 21 = .ok (.ifCond .ne 9, 3) := by decide +kernel
theorem d_Mo_kill_24 : decode b_Mo_kill 24 = .ok (.aload_n 0, 1) := by decide +kernel
theorem d_Mo_kill_25 : decode b_Mo_kill 25 = .ok (.iconst 2, 1) := by decide +kernel
theorem d_Mo_kill_26 : decode b_Mo_kill 26 = .ok (.invokevirtual 71, 3) := by decide +kernel
theorem d_Mo_kill_29 : decode b_Mo_kill 29 = .ok (.ireturn, 1) := by decide +kernel
theorem d_Mo_kill_30 : decode b_Mo_kill 30 = .ok (.aload_n 0, 1) := by decide +kernel
theorem d_Mo_kill_31 : decode b_Mo_kill 31 = .ok (.getfield 25, 3) := by decide +kernel
theorem d_Mo_kill_34 : decode b_Mo_kill 34 = .ok (.iload_n 1, 1) := by decide +kernel
theorem d_Mo_kill_35 : decode b_Mo_kill 35 = .ok (.iconst 0, 1) := by decide +kernel
theorem d_Mo_kill_36 : decode b_Mo_kill 36 = .ok (.bastore, 1) := by decide +kernel
theorem d_Mo_kill_37 : decode b_Mo_kill 37 = .ok (.aload_n 0, 1) := by decide +kernel
theorem d_Mo_kill_38 : decode b_Mo_kill 38 = .ok (.dup, 1) := by decide +kernel
theorem d_Mo_kill_39 : decode b_Mo_kill 39 = .ok (.getfield 101, 3) := by decide +kernel
theorem d_Mo_kill_42 : decode b_Mo_kill 42 = .ok (.iconst 1, 1) := by decide +kernel
theorem d_Mo_kill_43 : decode b_Mo_kill 43 = .ok (.iadd, 1) := by decide +kernel
theorem d_Mo_kill_44 : decode b_Mo_kill 44 = .ok (.putfield 101, 3) := by decide +kernel
theorem d_Mo_kill_47 : decode b_Mo_kill 47 = .ok (.aload_n 0, 1) := by decide +kernel
theorem d_Mo_kill_48 : decode b_Mo_kill 48 = .ok (.iconst 0, 1) := by decide +kernel
theorem d_Mo_kill_49 : decode b_Mo_kill 49 = .ok (.putfield 85, 3) := by decide +kernel
theorem d_Mo_kill_52 : decode b_Mo_kill 52 = .ok (.iconst 0, 1) := by decide +kernel
theorem d_Mo_kill_53 : decode b_Mo_kill 53 = .ok (.istore_n 2, 1) := by decide +kernel
theorem d_Mo_kill_54 : decode b_Mo_kill 54 = .ok (.iload_n 2, 1) := by decide +kernel
theorem d_Mo_kill_55 : decode b_Mo_kill 55 = .ok (.bipush 12, 2) := by decide +kernel
theorem d_Mo_kill_57 : decode b_Mo_kill 57 = .ok (.if_icmp .ge 24, 3) := by decide +kernel
theorem d_Mo_kill_60 : decode b_Mo_kill 60 = .ok (.aload_n 0, 1) := by decide +kernel
theorem d_Mo_kill_61 : decode b_Mo_kill 61 = .ok (.getfield 29, 3) := by decide +kernel
theorem d_Mo_kill_64 : decode b_Mo_kill 64 = .ok (.iload_n 2, 1) := by decide +kernel
theorem d_Mo_kill_65 : decode b_Mo_kill 65 = .ok (.iaload, 1) := by decide +kernel
theorem d_Mo_kill_66 : decode b_Mo_kill 66 = .ok (.iload_n 1, 1) := by decide +kernel
theorem d_Mo_kill_67 : decode b_Mo_kill 67 = .ok (.if_icmp .ne 8, 3) := by decide +kernel
theorem d_Mo_kill_70 : decode b_Mo_kill 70 = .ok (.aload_n 0, 1) := by decide +kernel
theorem d_Mo_kill_71 : decode b_Mo_kill 71 = .ok (.iload_n 2, 1) := by decide +kernel
theorem d_Mo_kill_72 : decode b_Mo_kill 72 = .ok (.invokevirtual 94, 3) := by decide +kernel
theorem d_Mo_kill_75 : decode b_Mo_kill 75 = .ok (.iinc 2 1, 3) := by decide +kernel
theorem d_Mo_kill_78 : decode b_Mo_kill 78 = .ok (.goto (-24), 3) := by decide +kernel
theorem d_Mo_kill_81 : decode b_Mo_kill 81 = .ok (.iconst 0, 1) := by decide +kernel
theorem d_Mo_kill_82 : decode b_Mo_kill 82 = .ok (.istore_n 2, 1) := by decide +kernel
theorem d_Mo_kill_83 : decode b_Mo_kill 83 = .ok (.iload_n 2, 1) := by decide +kernel
theorem d_Mo_kill_84 : decode b_Mo_kill 84 = .ok (.bipush 12, 2) := by decide +kernel
theorem d_Mo_kill_86 : decode b_Mo_kill 86 = .ok (.if_icmp .ge 24, 3) := by decide +kernel
theorem d_Mo_kill_89 : decode b_Mo_kill 89 = .ok (.aload_n 0, 1) := by decide +kernel
theorem d_Mo_kill_90 : decode b_Mo_kill 90 = .ok (.getfield 38, 3) := by decide +kernel
theorem d_Mo_kill_93 : decode b_Mo_kill 93 = .ok (.iload_n 2, 1) := by decide +kernel
theorem d_Mo_kill_94 : decode b_Mo_kill 94 = .ok (.iaload, 1) := by decide +kernel
theorem d_Mo_kill_95 : decode b_Mo_kill 95 = .ok (.iload_n 1, 1) := by decide +kernel
theorem d_Mo_kill_96 : decode b_Mo_kill 96 = .ok (.if_icmp .ne 8, 3) := by decide +kernel
theorem d_Mo_kill_99 : decode b_Mo_kill 99 = .ok (.aload_n 0, 1) := by decide +kernel
theorem d_Mo_kill_100 : decode b_Mo_kill 100 = .ok (.iload_n 2, 1) := by decide +kernel
theorem d_Mo_kill_101 : decode b_Mo_kill 101 = .ok (.invokevirtual 98, 3) := by decide +kernel
theorem d_Mo_kill_104 : decode b_Mo_kill 104 = .ok (.iinc 2 1, 3) := by decide +kernel
theorem d_Mo_kill_107 : decode b_Mo_kill 107 = .ok (.goto (-24), 3) := by decide +kernel
theorem d_Mo_kill_110 : decode b_Mo_kill 110 = .ok (.aload_n 0, 1) := by decide +kernel
theorem d_Mo_kill_111 : decode b_Mo_kill 111 = .ok (.invokevirtual 104, 3) := by decide +kernel
theorem d_Mo_kill_114 : decode b_Mo_kill 114 = .ok (.aload_n 0, 1) := by decide +kernel
theorem d_Mo_kill_115 : decode b_Mo_kill 115 = .ok (.getfield 85, 3) := by decide +kernel
theorem d_Mo_kill_118 : decode b_Mo_kill 118 = .ok (.ireturn, 1) := by decide +kernel
theorem d_Mo_allCells_0 : decode b_Mo_allCells 0 = .ok (.iconst 0, 1) := by decide +kernel
theorem d_Mo_allCells_1 : decode b_Mo_allCells 1 = .ok (.istore_n 1, 1) := by decide +kernel
theorem d_Mo_allCells_2 : decode b_Mo_allCells 2 = .ok (.iconst 0, 1) := by decide +kernel
theorem d_Mo_allCells_3 : decode b_Mo_allCells 3 = .ok (.istore_n 2, 1) := by decide +kernel
theorem d_Mo_allCells_4 : decode b_Mo_allCells 4 = .ok (.iload_n 2, 1) := by decide +kernel
theorem d_Mo_allCells_5 : decode b_Mo_allCells 5 = .ok (.bipush 12, 2) := by decide +kernel
theorem d_Mo_allCells_7 : decode b_Mo_allCells 7 = .ok (.if_icmp .ge 18, 3) := by decide +kernel
theorem d_Mo_allCells_10 : decode b_Mo_allCells 10 = .ok (.iload_n 1, 1) := by decide +kernel
theorem d_Mo_allCells_11 : decode b_Mo_allCells 11 = .ok (.aload_n 0, 1) := by decide +kernel
theorem d_Mo_allCells_12 : decode b_Mo_allCells 12 = .ok (.getfield 32, 3) := by decide +kernel
theorem d_Mo_allCells_15 : decode b_Mo_allCells 15 = .ok (.iload_n 2, 1) := by decide +kernel
theorem d_Mo_allCells_16 : decode b_Mo_allCells 16 = .ok (.iaload, 1) := by decide +kernel
theorem d_Mo_allCells_17 : decode b_Mo_allCells 17 = .ok (.iadd, 1) := by decide +kernel
theorem d_Mo_allCells_18 : decode b_Mo_allCells 18 = .ok (.istore_n 1, 1) := by decide +kernel
theorem d_Mo_allCells_19 : decode b_Mo_allCells 19 = .ok (.iinc 2 1, 3) := by decide +kernel
theorem d_Mo_allCells_22 : decode b_Mo_allCells 22 = .ok (.goto (-18), 3) := by decide +kernel
theorem d_Mo_allCells_25 : decode b_Mo_allCells 25 = .ok (.iload_n 1, 1) := by decide +kernel
theorem d_Mo_allCells_26 : decode b_Mo_allCells 26 = .ok (.ireturn, 1) := by decide +kernel
theorem d_Mo_block_0 : decode b_Mo_block 0 = .ok (.aload_n 0, 1) := by decide +kernel
theorem d_Mo_block_1 : decode b_Mo_block 1 = .ok (.iload_n 1, 1) := by decide +kernel
theorem d_Mo_block_2 : decode b_Mo_block 2 = .ok (.iconst 0, 1) := by decide +kernel
theorem d_Mo_block_3 : decode b_Mo_block 3 = .ok (.iconst 3, 1) := by decide +kernel
theorem d_Mo_block_4 : decode b_Mo_block 4 = .ok (.invokestatic 60, 3) := by decide +kernel
theorem d_Mo_block_7 : decode b_Mo_block 7 = .ok (.ifCond .eq 17, 3) := by decide +kernel
theorem d_Mo_block_10 : decode b_Mo_block 10 = .ok (.iload_n 2, 1) := by decide +kernel
theorem d_Mo_block_11 : decode b_Mo_block 11 = .ok (.iconst 1, 1) := by decide +kernel
theorem d_Mo_block_12 : decode b_Mo_block 12 = .ok (.bipush 8, 2) := by decide +kernel
theorem d_Mo_block_14 : decode b_Mo_block 14 = .ok (.invokestatic 60, 3) := by decide +kernel
theorem d_Mo_block_17 : decode b_Mo_block 17 = .ok (.ifCond .eq 7, 3) := by decide +kernel
theorem d_Mo_block_20 : decode b_Mo_block 20 = .ok (.iconst 1, 1) := by decide +kernel
theorem d_Mo_block_21 : decode b_Mo_block 21 = .ok (.goto 4, 3) := by decide +kernel
theorem d_Mo_block_24 : decode b_Mo_block 24 = .ok (.iconst 0, 1) := by decide +kernel
theorem d_Mo_block_25 : decode b_Mo_block 25 = .ok (.invokevirtual 64, 3) := by decide +kernel
theorem d_Mo_block_28 : decode b_Mo_block 28 = .ok (.ifCond .eq 5, 3) := by decide +kernel
theorem d_Mo_block_31 : decode b_Mo_block 31 = .ok (.iconst 0, 1) := by decide +kernel
theorem d_Mo_block_32 : decode b_Mo_block 32 = .ok (.ireturn, 1) := by decide +kernel
theorem d_Mo_block_33 : decode b_Mo_block 33 = .ok (.aload_n 0, 1) := by decide +kernel
theorem d_Mo_block_34 : decode b_Mo_block 34 = .ok (.getfield 25, 3) := by decide +kernel
theorem d_Mo_block_37 : decode b_Mo_block 37 = .ok (.iload_n 1, 1) := by decide +kernel
theorem d_Mo_block_38 : decode b_Mo_block 38 = .ok (.baload, 1) := by decide +kernel
theorem d_Mo_block_39 : decode b_Mo_block 39 = .ok (.ifCond .ne 9, 3) := by decide +kernel
theorem d_Mo_block_42 : decode b_Mo_block 42 = .ok (.aload_n 0, 1) := by decide +kernel
theorem d_Mo_block_43 : decode b_Mo_block 43 = .ok (.iconst 2, 1) := by decide +kernel
theorem d_Mo_block_44 : decode b_Mo_block 44 = .ok (.invokevirtual 71, 3) := by decide +kernel
theorem d_Mo_block_47 : decode b_Mo_block 47 = .ok (.ireturn, 1) := by decide +kernel
theorem d_Mo_block_48 : decode b_Mo_block 48 = .ok (.iconst 0, 1) := by decide +kernel
theorem d_Mo_block_49 : decode b_Mo_block 49 = .ok (.istore_n 3, 1) := by decide +kernel
theorem d_Mo_block_50 : decode b_Mo_block 50 = .ok (.iload_n 3, 1) := by decide +kernel
theorem d_Mo_block_51 : decode b_Mo_block 51 = .ok (.bipush 12, 2) := by decide +kernel
theorem d_Mo_block_53 : decode b_Mo_block 53 = .ok (.if_icmp .ge 18, 3) := by decide +kernel
theorem d_Mo_block_56 : decode b_Mo_block 56 = .ok (.aload_n 0, 1) := by decide +kernel
theorem d_Mo_block_57 : decode b_Mo_block 57 = .ok (.getfield 29, 3) := by decide +kernel
theorem d_Mo_block_60 : decode b_Mo_block 60 = .ok (.iload_n 3, 1) := by decide +kernel
theorem d_Mo_block_61 : decode b_Mo_block 61 = .ok (.iaload, 1) := by decide +kernel
theorem d_Mo_block_62 : decode b_Mo_block 62 = .ok (.ifCond .lt 9, 3) := by decide +kernel
theorem d_Mo_block_65 : decode b_Mo_block 65 = .ok (.iinc 3 1, 3) := by decide +kernel
theorem d_Mo_block_68 : decode b_Mo_block 68 = .ok (.goto (-18), 3) := by decide +kernel
theorem d_Mo_block_71 : decode b_Mo_block 71 = .ok (.iload_n 3, 1) := by decide +kernel
theorem d_Mo_block_72 : decode b_Mo_block 72 = .ok (.bipush 12, 2) := by decide +kernel
theorem d_Mo_block_74 : decode b_Mo_block 74 = .ok (.if_icmp .eq 14, 3) := by decide +kernel
theorem d_Mo_block_77 : decode b_Mo_block 77 = .ok (.aload_n 0, 1) := by decide +kernel
theorem d_Mo_block_78 : decode b_Mo_block 78 = .ok (.invokevirtual 107, 3) := by decide +kernel
theorem d_Mo_block_81 : decode b_Mo_block 81 = .ok (.iload_n 2, 1) := by decide +kernel
theorem d_Mo_block_82 : decode b_Mo_block 82 = .ok (.iadd, 1) := by decide +kernel
theorem d_Mo_block_83 : decode b_Mo_block 83 = .ok (.bipush 48, 2) := by decide +kernel
theorem d_Mo_block_85 : decode b_Mo_block 85 = .ok (.if_icmp .le 9, 3) := by decide +kernel
theorem d_Mo_block_88 : decode b_Mo_block 88 = .ok (.aload_n 0, 1) := by decide +kernel
theorem d_Mo_block_89 : decode b_Mo_block 89 = .ok (.iconst 3, 1) := by decide +kernel
theorem d_Mo_block_90 : decode b_Mo_block 90 = .ok (.invokevirtual 71, 3) := by decide +kernel
theorem d_Mo_block_93 : decode b_Mo_block 93 = .ok (.ireturn, 1) := by decide +kernel
theorem d_Mo_block_94 : decode b_Mo_block 94 = .ok (.aload_n 0, 1) := by decide +kernel
theorem d_Mo_block_95 : decode b_Mo_block 95 = .ok (.getfield 29, 3) := by decide +kernel
theorem d_Mo_block_98 : decode b_Mo_block 98 = .ok (.iload_n 3, 1) := by decide +kernel
theorem d_Mo_block_99 : decode b_Mo_block 99 = .ok (.iload_n 1, 1) := by decide +kernel
theorem d_Mo_block_100 : decode b_Mo_block 100 = .ok (.iastore, 1) := by decide +kernel
theorem d_Mo_block_101 : decode b_Mo_block 101 = .ok (.aload_n 0, 1) := by decide +kernel
theorem d_Mo_block_102 : decode b_Mo_block 102 = .ok (.getfield 32, 3) := by decide +kernel
theorem d_Mo_block_105 : decode b_Mo_block 105 = .ok (.iload_n 3, 1) := by decide +kernel
theorem d_Mo_block_106 : decode b_Mo_block 106 = .ok (.iload_n 2, 1) := by decide +kernel
theorem d_Mo_block_107 : decode b_Mo_block 107 = .ok (.iastore, 1) := by decide +kernel
theorem d_Mo_block_108 : decode b_Mo_block 108 = .ok (.iconst 0, 1) := by decide +kernel
theorem d_Mo_block_109 : decode b_Mo_block 109 = .ok (.istore 4, 2) := by decide +kernel
theorem d_Mo_block_111 : decode b_Mo_block 111 = .ok (.iload 4, 2) := by decide +kernel
theorem d_Mo_block_113 : decode b_Mo_block 113 = .ok (.bipush 8, 2) := by decide +kernel
theorem d_Mo_block_115 : decode b_Mo_block 115 = .ok (.if_icmp .ge 22, 3) := by decide +kernel
theorem d_Mo_block_118 : decode b_Mo_block 118 = .ok (.aload_n 0, 1) := by decide +kernel
theorem d_Mo_block_119 : decode b_Mo_block 119 = .ok (.getfield 35, 3) := by decide +kernel
theorem d_Mo_block_122 : decode b_Mo_block 122 = .ok (.iload_n 3, 1) := by decide +kernel
theorem d_Mo_block_123 : decode b_Mo_block 123 = .ok (.bipush 8, 2) := by decide +kernel
theorem d_Mo_block_125 : decode b_Mo_block 125 = .ok (.imul, 1) := by decide +kernel
theorem d_Mo_block_126 : decode b_Mo_block 126 = .ok (.iload 4, 2) := by decide +kernel
theorem d_Mo_block_128 : decode b_Mo_block 128 = .ok (.iadd, 1) := by decide +kernel
theorem d_Mo_block_129 : decode b_Mo_block 129 = .ok (.iconst 0, 1) := by decide +kernel
theorem d_Mo_block_130 : decode b_Mo_block 130 = .ok (.iastore, 1) := by decide +kernel
theorem d_Mo_block_131 : decode b_Mo_block 131 = .ok (.iinc 4 1, 3) := by decide +kernel
theorem d_Mo_block_134 : decode b_Mo_block 134 = .ok (.goto (-23), 3) := by decide +kernel
theorem d_Mo_block_137 : decode b_Mo_block 137 = .ok (.iload_n 3, 1) := by decide +kernel
theorem d_Mo_block_138 : decode b_Mo_block 138 = .ok (.ireturn, 1) := by decide +kernel
theorem d_Mo_notYours_0 : decode b_Mo_notYours 0 = .ok (.aload_n 0, 1) := by decide +kernel
theorem d_Mo_notYours_1 : decode b_Mo_notYours 1 = .ok (.iload_n 1, 1) := by decide +kernel
theorem d_Mo_notYours_2 : decode b_Mo_notYours 2 = .ok (.iconst 0, 1) := by decide +kernel
theorem d_Mo_notYours_3 : decode b_Mo_notYours 3 = .ok (.iconst 3, 1) := by decide +kernel
theorem d_Mo_notYours_4 : decode b_Mo_notYours 4 = .ok (.invokestatic 60, 3) := by decide +kernel
theorem d_Mo_notYours_7 : decode b_Mo_notYours 7 = .ok (.ifCond .eq 17, 3) := by decide +kernel
theorem d_Mo_notYours_10 : decode b_Mo_notYours 10 = .ok (.iload_n 2, 1) := by decide +kernel
theorem d_Mo_notYours_11 : decode b_Mo_notYours 11 = .ok (.iconst 0, 1) := by decide +kernel
theorem d_Mo_notYours_12 : decode b_Mo_notYours 12 = .ok (.bipush 11, 2) := by decide +kernel
theorem d_Mo_notYours_14 : decode b_Mo_notYours 14 = .ok (.invokestatic 60, 3) := by decide +kernel
theorem d_Mo_notYours_17 : decode b_Mo_notYours 17 = .ok (.ifCond .eq 7, 3) := by decide +kernel
theorem d_Mo_notYours_20 : decode b_Mo_notYours 20 = .ok (.iconst 1, 1) := by decide +kernel
theorem d_Mo_notYours_21 : decode b_Mo_notYours 21 = .ok (.goto 4, 3) := by decide +kernel
theorem d_Mo_notYours_24 : decode b_Mo_notYours 24 = .ok (.iconst 0, 1) := by decide +kernel
theorem d_Mo_notYours_25 : decode b_Mo_notYours 25 = .ok (.invokevirtual 64, 3) := by decide +kernel
theorem d_Mo_notYours_28 : decode b_Mo_notYours 28 = .ok (.ifCond .eq 5, 3) := by decide +kernel
theorem d_Mo_notYours_31 : decode b_Mo_notYours 31 = .ok (.iconst 1, 1) := by decide +kernel
theorem d_Mo_notYours_32 : decode b_Mo_notYours 32 = .ok (.ireturn, 1) := by decide +kernel
theorem d_Mo_notYours_33 : decode b_Mo_notYours 33 = .ok (.aload_n 0, 1) := by decide +kernel
theorem d_Mo_notYours_34 : decode b_Mo_notYours 34 = .ok (.getfield 25, 3) := by decide +kernel
theorem d_Mo_notYours_37 : decode b_Mo_notYours 37 = .ok (.iload_n 1, 1) := by decide +kernel
theorem d_Mo_notYours_38 : decode b_Mo_notYours 38 = .ok (.baload, 1) := by decide +kernel
theorem d_Mo_notYours_39 : decode b_Mo_notYours 39 = .ok (.ifCond .eq 13, 3) := by decide +kernel
theorem d_Mo_notYours_42 : decode b_Mo_notYours 42 = .ok (.aload_n 0, 1) := by decide +kernel
theorem d_Mo_notYours_43 : decode b_Mo_notYours 43 = .ok (.getfield 29, 3) := by decide +kernel
theorem d_Mo_notYours_46 : decode b_Mo_notYours 46 = .ok (.iload_n 2, 1) := by decide +kernel
theorem d_Mo_notYours_47 : decode b_Mo_notYours 47 = .ok (.iaload, 1) := by decide +kernel
theorem d_Mo_notYours_48 : decode b_Mo_notYours 48 = .ok (.iload_n 1, 1) := by decide +kernel
theorem d_Mo_notYours_49 : decode b_Mo_notYours 49 = .ok (.if_icmp .eq 8, 3) := by decide +kernel
theorem d_Mo_notYours_52 : decode b_Mo_notYours 52 = .ok (.aload_n 0, 1) := by decide +kernel
theorem d_Mo_notYours_53 : decode b_Mo_notYours 53 = .ok (.iconst 2, 1) := by decide +kernel
theorem d_Mo_notYours_54 : decode b_Mo_notYours 54 = .ok (.putfield 56, 3) := by decide +kernel
theorem d_Mo_notYours_57 : decode b_Mo_notYours 57 = .ok (.aload_n 0, 1) := by decide +kernel
theorem d_Mo_notYours_58 : decode b_Mo_notYours 58 = .ok (.getfield 56, 3) := by decide +kernel
theorem d_Mo_notYours_61 : decode b_Mo_notYours 61 = .ok (.ifCond .le 7, 3) := by decide +kernel
theorem d_Mo_notYours_64 : decode b_Mo_notYours 64 = .ok (.iconst 1, 1) := by decide +kernel
theorem d_Mo_notYours_65 : decode b_Mo_notYours 65 = .ok (.goto 4, 3) := by decide +kernel
theorem d_Mo_notYours_68 : decode b_Mo_notYours 68 = .ok (.iconst 0, 1) := by decide +kernel
theorem d_Mo_notYours_69 : decode b_Mo_notYours 69 = .ok (.ireturn, 1) := by decide +kernel
theorem d_Mo_free_0 : decode b_Mo_free 0 = .ok (.aload_n 0, 1) := by decide +kernel
theorem d_Mo_free_1 : decode b_Mo_free 1 = .ok (.iload_n 1, 1) := by decide +kernel
theorem d_Mo_free_2 : decode b_Mo_free 2 = .ok (.iload_n 2, 1) := by decide +kernel
theorem d_Mo_free_3 : decode b_Mo_free 3 = .ok (.invokevirtual 110, 3) := by decide +kernel
theorem d_Mo_free_6 : decode b_Mo_free 6 = .ok (.ifCond .eq 4, 3) := by decide +kernel
theorem d_Mo_free_9 : decode b_Mo_free 9 = .ok (.return_, 1) := by decide +kernel
theorem d_Mo_free_10 : decode b_Mo_free 10 = .ok (.aload_n 0, 1) := by decide +kernel
theorem d_Mo_free_11 : decode b_Mo_free 11 = .ok (.iload_n 2, 1) := by decide +kernel
theorem d_Mo_free_12 : decode b_Mo_free 12 = .ok (.invokevirtual 94, 3) := by decide +kernel
theorem d_Mo_free_15 : decode b_Mo_free 15 = .ok (.return_, 1) := by decide +kernel
theorem d_Mo_read_0 : decode b_Mo_read 0 = .ok (.aload_n 0, 1) := by decide +kernel
theorem d_Mo_read_1 : decode b_Mo_read 1 = .ok (.iload_n 1, 1) := by decide +kernel
theorem d_Mo_read_2 : decode b_Mo_read 2 = .ok (.iload_n 2, 1) := by decide +kernel
theorem d_Mo_read_3 : decode b_Mo_read 3 = .ok (.invokevirtual 110, 3) := by decide +kernel
theorem d_Mo_read_6 : decode b_Mo_read 6 = .ok (.ifCond .eq 5, 3) := by decide +kernel
theorem d_Mo_read_9 : decode b_Mo_read 9 = .ok (.iconst 0, 1) := by decide +kernel
theorem d_Mo_read_10 : decode b_Mo_read 10 = .ok (.ireturn, 1) := by decide +kernel
theorem d_Mo_read_11 : decode b_Mo_read 11 = .ok (.iload_n 3, 1) := by decide +kernel
theorem d_Mo_read_12 : decode b_Mo_read 12 = .ok (.ifCond .lt 13, 3) := by decide +kernel
theorem d_Mo_read_15 : decode b_Mo_read 15 = .ok (.iload_n 3, 1) := by decide +kernel
theorem d_Mo_read_16 : decode b_Mo_read 16 = .ok (.aload_n 0, 1) := by decide +kernel
theorem d_Mo_read_17 : decode b_Mo_read 17 = .ok (.getfield 32, 3) := by decide +kernel
theorem d_Mo_read_20 : decode b_Mo_read 20 = .ok (.iload_n 2, 1) := by decide +kernel
theorem d_Mo_read_21 : decode b_Mo_read 21 = .ok (.iaload, 1) := by decide +kernel
theorem d_Mo_read_22 : decode b_Mo_read 22 = .ok (.if_icmp .lt 11, 3) := by decide +kernel
theorem d_Mo_read_25 : decode b_Mo_read 25 = .ok (.aload_n 0, 1) := by decide +kernel
theorem d_Mo_read_26 : decode b_Mo_read 26 = .ok (.iconst 3, 1) := by decide +kernel
theorem d_Mo_read_27 : decode b_Mo_read 27 = .ok (.invokevirtual 71, 3) := by decide +kernel
theorem d_Mo_read_30 : decode b_Mo_read 30 = .ok (.goto 14, 3) := by decide +kernel
theorem d_Mo_read_33 : decode b_Mo_read 33 = .ok (.aload_n 0, 1) := by decide +kernel
theorem d_Mo_read_34 : decode b_Mo_read 34 = .ok (.getfield 35, 3) := by decide +kernel
theorem d_Mo_read_37 : decode b_Mo_read 37 = .ok (.iload_n 2, 1) := by decide +kernel
theorem d_Mo_read_38 : decode b_Mo_read 38 = .ok (.bipush 8, 2) := by decide +kernel
theorem d_Mo_read_40 : decode b_Mo_read 40 = .ok (.imul, 1) := by decide +kernel
theorem d_Mo_read_41 : decode b_Mo_read 41 = .ok (.iload_n 3, 1) := by decide +kernel
theorem d_Mo_read_42 : decode b_Mo_read 42 = .ok (.iadd, 1) := by decide +kernel
theorem d_Mo_read_43 : decode b_Mo_read 43 = .ok (.iaload, 1) := by decide +kernel
theorem d_Mo_read_44 : decode b_Mo_read 44 = .ok (.ireturn, 1) := by decide +kernel
theorem d_Mo_write_0 : decode b_Mo_write 0 = .ok (.aload_n 0, 1) := by decide +kernel
theorem d_Mo_write_1 : decode b_Mo_write 1 = .ok (.iload_n 1, 1) := by decide +kernel
theorem d_Mo_write_2 : decode b_Mo_write 2 = .ok (.iload_n 2, 1) := by decide +kernel
theorem d_Mo_write_3 : decode b_Mo_write 3 = .ok (.invokevirtual 110, 3) := by decide +kernel
theorem d_Mo_write_6 : decode b_Mo_write 6 = .ok (.ifCond .eq 4, 3) := by decide +kernel
theorem d_Mo_write_9 : decode b_Mo_write 9 = .ok (.return_, 1) := by decide +kernel
theorem d_Mo_write_10 : decode b_Mo_write 10 = .ok (.iload_n 3, 1) := by decide +kernel
theorem d_Mo_write_11 : decode b_Mo_write 11 = .ok (.ifCond .lt 13, 3) := by decide +kernel
theorem d_Mo_write_14 : decode b_Mo_write 14 = .ok (.iload_n 3, 1) := by decide +kernel
theorem d_Mo_write_15 : decode b_Mo_write 15 = .ok (.aload_n 0, 1) := by decide +kernel
theorem d_Mo_write_16 : decode b_Mo_write 16 = .ok (.getfield 32, 3) := by decide +kernel
theorem d_Mo_write_19 : decode b_Mo_write 19 = .ok (.iload_n 2, 1) := by decide +kernel
theorem d_Mo_write_20 : decode b_Mo_write 20 = .ok (.iaload, 1) := by decide +kernel
theorem d_Mo_write_21 : decode b_Mo_write 21 = .ok (.if_icmp .lt 11, 3) := by decide +kernel
theorem d_Mo_write_24 : decode b_Mo_write 24 = .ok (.aload_n 0, 1) := by decide +kernel
theorem d_Mo_write_25 : decode b_Mo_write 25 = .ok (.iconst 3, 1) := by decide +kernel
theorem d_Mo_write_26 : decode b_Mo_write 26 = .ok (.putfield 56, 3) := by decide +kernel
theorem d_Mo_write_29 : decode b_Mo_write 29 = .ok (.goto 16, 3) := by decide +kernel
theorem d_Mo_write_32 : decode b_Mo_write 32 = .ok (.aload_n 0, 1) := by decide +kernel
theorem d_Mo_write_33 : decode b_Mo_write 33 = .ok (.getfield 35, 3) := by decide +kernel
theorem d_Mo_write_36 : decode b_Mo_write 36 = .ok (.iload_n 2, 1) := by decide +kernel
theorem d_Mo_write_37 : decode b_Mo_write 37 = .ok (.bipush 8, 2) := by decide +kernel
theorem d_Mo_write_39 : decode b_Mo_write 39 = .ok (.imul, 1) := by decide +kernel
theorem d_Mo_write_40 : decode b_Mo_write 40 = .ok (.iload_n 3, 1) := by decide +kernel
theorem d_Mo_write_41 : decode b_Mo_write 41 = .ok (.iadd, 1) := by decide +kernel
theorem d_Mo_write_42 : decode b_Mo_write 42 = .ok (.iload 4, 2) := by decide +kernel
theorem d_Mo_write_44 : decode b_Mo_write 44 = .ok (.iastore, 1) := by decide +kernel
theorem d_Mo_write_45 : decode b_Mo_write 45 = .ok (.return_, 1) := by decide +kernel
theorem d_Mo_open_0 : decode b_Mo_open 0 = .ok (.aload_n 0, 1) := by decide +kernel
theorem d_Mo_open_1 : decode b_Mo_open 1 = .ok (.iload_n 1, 1) := by decide +kernel
theorem d_Mo_open_2 : decode b_Mo_open 2 = .ok (.iconst 0, 1) := by decide +kernel
theorem d_Mo_open_3 : decode b_Mo_open 3 = .ok (.iconst 3, 1) := by decide +kernel
theorem d_Mo_open_4 : decode b_Mo_open 4 = .ok (.invokestatic 60, 3) := by decide +kernel
theorem d_Mo_open_7 : decode b_Mo_open 7 = .ok (.ifCond .eq 25, 3) := by decide +kernel
theorem d_Mo_open_10 : decode b_Mo_open 10 = .ok (.iload_n 2, 1) := by decide +kernel
theorem d_Mo_open_11 : decode b_Mo_open 11 = .ok (.iconst 0, 1) := by decide +kernel
theorem d_Mo_open_12 : decode b_Mo_open 12 = .ok (.iconst 3, 1) := by decide +kernel
theorem d_Mo_open_13 : decode b_Mo_open 13 = .ok (.invokestatic 60, 3) := by decide +kernel
theorem d_Mo_open_16 : decode b_Mo_open 16 = .ok (.ifCond .eq 16, 3) := by decide +kernel
theorem d_Mo_open_19 : decode b_Mo_open 19 = .ok (.iload_n 3, 1) := by decide +kernel
theorem d_Mo_open_20 : decode b_Mo_open 20 = .ok (.iconst 0, 1) := by decide +kernel
theorem d_Mo_open_21 : decode b_Mo_open 21 = .ok (.iconst 3, 1) := by decide +kernel
theorem d_Mo_open_22 : decode b_Mo_open 22 = .ok (.invokestatic 60, 3) := by decide +kernel
theorem d_Mo_open_25 : decode b_Mo_open 25 = .ok (.ifCond .eq 7, 3) := by decide +kernel
theorem d_Mo_open_28 : decode b_Mo_open 28 = .ok (.iconst 1, 1) := by decide +kernel
theorem d_Mo_open_29 : decode b_Mo_open 29 = .ok (.goto 4, 3) := by decide +kernel
theorem d_Mo_open_32 : decode b_Mo_open 32 = .ok (.iconst 0, 1) := by decide +kernel
theorem d_Mo_open_33 : decode b_Mo_open 33 = .ok (.invokevirtual 64, 3) := by decide +kernel
theorem d_Mo_open_36 : decode b_Mo_open 36 = .ok (.ifCond .eq 5, 3) := by decide +kernel
theorem d_Mo_open_39 : decode b_Mo_open 39 = .ok (.iconst 0, 1) := by decide +kernel
theorem d_Mo_open_40 : decode b_Mo_open 40 = .ok (.ireturn, 1) := by decide +kernel
theorem d_Mo_open_41 : decode b_Mo_open 41 = .ok (.aload_n 0, 1) := by decide +kernel
theorem d_Mo_open_42 : decode b_Mo_open 42 = .ok (.getfield 25, 3) := by decide +kernel
theorem d_Mo_open_45 : decode b_Mo_open 45 = .ok (.iload_n 1, 1) := by decide +kernel
theorem d_Mo_open_46 : decode b_Mo_open 46 = .ok (.baload, 1) := by decide +kernel
theorem d_Mo_open_47 : decode b_Mo_open 47 = .ok (.ifCond .eq 12, 3) := by decide +kernel
theorem d_Mo_open_50 : decode b_Mo_open 50 = .ok (.aload_n 0, 1) := by decide +kernel
theorem d_Mo_open_51 : decode b_Mo_open 51 = .ok (.getfield 25, 3) := by decide +kernel
theorem d_Mo_open_54 : decode b_Mo_open 54 = .ok (.iload_n 2, 1) := by decide +kernel
theorem d_Mo_open_55 : decode b_Mo_open 55 = .ok (.baload, 1) := by decide +kernel
theorem d_Mo_open_56 : decode b_Mo_open 56 = .ok (.ifCond .ne 9, 3) := by decide +kernel
theorem d_Mo_open_59 : decode b_Mo_open 59 = .ok (.aload_n 0, 1) := by decide +kernel
theorem d_Mo_open_60 : decode b_Mo_open 60 = .ok (.iconst 2, 1) := by decide +kernel
theorem d_Mo_open_61 : decode b_Mo_open 61 = .ok (.invokevirtual 71, 3) := by decide +kernel
theorem d_Mo_open_64 : decode b_Mo_open 64 = .ok (.ireturn, 1) := by decide +kernel
theorem d_Mo_open_65 : decode b_Mo_open 65 = .ok (.aload_n 0, 1) := by decide +kernel
theorem d_Mo_open_66 : decode b_Mo_open 66 = .ok (.getfield 16, 3) := by decide +kernel
theorem d_Mo_open_69 : decode b_Mo_open 69 = .ok (.iload_n 3, 1) := by decide +kernel
theorem d_Mo_open_70 : decode b_Mo_open 70 = .ok (.iaload, 1) := by decide +kernel
theorem d_Mo_open_71 : decode b_Mo_open 71 = .ok (.ifCond .ne 9, 3) := by decide +kernel
theorem d_Mo_open_74 : decode b_Mo_open 74 = .ok (.aload_n 0, 1) := by decide +kernel
theorem d_Mo_open_75 : decode b_Mo_open 75 = .ok (.iconst 3, 1) := by decide +kernel
theorem d_Mo_open_76 : decode b_Mo_open 76 = .ok (.invokevirtual 71, 3) := by decide +kernel
theorem d_Mo_open_79 : decode b_Mo_open 79 = .ok (.ireturn, 1) := by decide +kernel
theorem d_Mo_open_80 : decode b_Mo_open 80 = .ok (.iconst 0, 1) := by decide +kernel
theorem d_Mo_open_81 : decode b_Mo_open 81 = .ok (.istore 4, 2) := by decide +kernel
theorem d_Mo_open_83 : decode b_Mo_open 83 = .ok (.iload 4, 2) := by decide +kernel
theorem d_Mo_open_85 : decode b_Mo_open 85 = .ok (.bipush 6, 2) := by decide +kernel
theorem d_Mo_open_87 : decode b_Mo_open 87 = .ok (.if_icmp .ge 35, 3) := by decide +kernel
theorem d_Mo_open_90 : decode b_Mo_open 90 = .ok (.aload_n 0, 1) := by decide +kernel
theorem d_Mo_open_91 : decode b_Mo_open 91 = .ok (.getfield 38, 3) := by decide +kernel
theorem d_Mo_open_94 : decode b_Mo_open 94 = .ok (.iconst 2, 1) := by decide +kernel
theorem d_Mo_open_95 : decode b_Mo_open 95 = .ok (.iload 4, 2) := by decide +kernel
theorem d_Mo_open_97 : decode b_Mo_open 97 = .ok (.imul, 1) := by decide +kernel
theorem d_Mo_open_98 : decode b_Mo_open 98 = .ok (.iaload, 1) := by decide +kernel
theorem d_Mo_open_99 : decode b_Mo_open 99 = .ok (.ifCond .ge 17, 3) := by decide +kernel
theorem d_Mo_open_102 : decode b_Mo_open 102 = .ok (.aload_n 0, 1) := by decide +kernel
theorem d_Mo_open_103 : decode b_Mo_open 103 = .ok (.getfield 38, 3) := by decide +kernel
theorem d_Mo_open_106 : decode b_Mo_open 106 = .ok (.iconst 2, 1) := by decide +kernel
theorem d_Mo_open_107 : decode b_Mo_open 107 = .ok (.iload 4, 2) := by decide +kernel
theorem d_Mo_open_109 : decode b_Mo_open 109 = .ok (.imul, 1) := by decide +kernel
theorem d_Mo_open_110 : decode b_Mo_open 110 = .ok (.iconst 1, 1) := by decide +kernel
theorem d_Mo_open_111 : decode b_Mo_open 111 = .ok (.iadd, 1) := by decide +kernel
theorem d_Mo_open_112 : decode b_Mo_open 112 = .ok (.iaload, 1) := by decide +kernel
theorem d_Mo_open_113 : decode b_Mo_open 113 = .ok (.ifCond .lt 9, 3) := by decide +kernel
theorem d_Mo_open_116 : decode b_Mo_open 116 = .ok (.iinc 4 1, 3) := by decide +kernel
theorem d_Mo_open_119 : decode b_Mo_open 119 = .ok (.goto (-36), 3) := by decide +kernel
theorem d_Mo_open_122 : decode b_Mo_open 122 = .ok (.iload 4, 2) := by decide +kernel
theorem d_Mo_open_124 : decode b_Mo_open 124 = .ok (.bipush 6, 2) := by decide +kernel
theorem d_Mo_open_126 : decode b_Mo_open 126 = .ok (.if_icmp .ne 9, 3) := by decide +kernel
theorem d_Mo_open_129 : decode b_Mo_open 129 = .ok (.aload_n 0, 1) := by decide +kernel
theorem d_Mo_open_130 : decode b_Mo_open 130 = .ok (.iconst 4, 1) := by decide +kernel
theorem d_Mo_open_131 : decode b_Mo_open 131 = .ok (.invokevirtual 71, 3) := by decide +kernel
theorem d_Mo_open_134 : decode b_Mo_open 134 = .ok (.ireturn, 1) := by decide +kernel
theorem d_Mo_open_135 : decode b_Mo_open 135 = .ok (.iconst 0, 1) := by decide +kernel
theorem d_Mo_open_136 : decode b_Mo_open 136 = .ok (.istore 5, 2) := by decide +kernel
theorem d_Mo_open_138 : decode b_Mo_open 138 = .ok (.iload 5, 2) := by decide +kernel
theorem d_Mo_open_140 : decode b_Mo_open 140 = .ok (.bipush 36, 2) := by decide +kernel
theorem d_Mo_open_142 : decode b_Mo_open 142 = .ok (.if_icmp .ge 34, 3) := by decide +kernel
theorem d_Mo_open_145 : decode b_Mo_open 145 = .ok (.aload_n 0, 1) := by decide +kernel
theorem d_Mo_open_146 : decode b_Mo_open 146 = .ok (.getfield 19, 3) := by decide +kernel
theorem d_Mo_open_149 : decode b_Mo_open 149 = .ok (.iload 4, 2) := by decide +kernel
theorem d_Mo_open_151 : decode b_Mo_open 151 = .ok (.bipush 36, 2) := by decide +kernel
theorem d_Mo_open_153 : decode b_Mo_open 153 = .ok (.imul, 1) := by decide +kernel
theorem d_Mo_open_154 : decode b_Mo_open 154 = .ok (.iload 5, 2) := by decide +kernel
theorem d_Mo_open_156 : decode b_Mo_open 156 = .ok (.iadd, 1) := by decide +kernel
theorem d_Mo_open_157 : decode b_Mo_open 157 = .ok (.aload_n 0, 1) := by decide +kernel
theorem d_Mo_open_158 : decode b_Mo_open 158 = .ok (.getfield 13, 3) := by decide +kernel
theorem d_Mo_open_161 : decode b_Mo_open 161 = .ok (.iload_n 3, 1) := by decide +kernel
theorem d_Mo_open_162 : decode b_Mo_open 162 = .ok (.bipush 36, 2) := by decide +kernel
theorem d_Mo_open_164 : decode b_Mo_open 164 = .ok (.imul, 1) := by decide +kernel
theorem d_Mo_open_165 : decode b_Mo_open 165 = .ok (.iload 5, 2) := by decide +kernel
theorem d_Mo_open_167 : decode b_Mo_open 167 = .ok (.iadd, 1) := by decide +kernel
theorem d_Mo_open_168 : decode b_Mo_open 168 = .ok (.iaload, 1) := by decide +kernel
theorem d_Mo_open_169 : decode b_Mo_open 169 = .ok (.iastore, 1) := by decide +kernel
theorem d_Mo_open_170 : decode b_Mo_open 170 = .ok (.iinc 5 1, 3) := by decide +kernel
theorem d_Mo_open_173 : decode b_Mo_open 173 = .ok (.goto (-35), 3) := by decide +kernel
theorem d_Mo_open_176 : decode b_Mo_open 176 = .ok (.aload_n 0, 1) := by decide +kernel
theorem d_Mo_open_177 : decode b_Mo_open 177 = .ok (.getfield 22, 3) := by decide +kernel
theorem d_Mo_open_180 : decode b_Mo_open 180 = .ok (.iload 4, 2) := by decide +kernel
theorem d_Mo_open_182 : decode b_Mo_open 182 = .ok (.aload_n 0, 1) := by decide +kernel
theorem d_Mo_open_183 : decode b_Mo_open 183 = .ok (.getfield 16, 3) := by decide +kernel
theorem d_Mo_open_186 : decode b_Mo_open 186 = .ok (.iload_n 3, 1) := by decide +kernel
theorem d_Mo_open_187 : decode b_Mo_open 187 = .ok (.iaload, 1) := by decide +kernel
theorem d_Mo_open_188 : decode b_Mo_open 188 = .ok (.iastore, 1) := by decide +kernel
theorem d_Mo_open_189 : decode b_Mo_open 189 = .ok (.aload_n 0, 1) := by decide +kernel
theorem d_Mo_open_190 : decode b_Mo_open 190 = .ok (.getfield 38, 3) := by decide +kernel
theorem d_Mo_open_193 : decode b_Mo_open 193 = .ok (.iconst 2, 1) := by decide +kernel
theorem d_Mo_open_194 : decode b_Mo_open 194 = .ok (.iload 4, 2) := by decide +kernel
theorem d_Mo_open_196 : decode b_Mo_open 196 = .ok (.imul, 1) := by decide +kernel
theorem d_Mo_open_197 : decode b_Mo_open 197 = .ok (.iload_n 1, 1) := by decide +kernel
theorem d_Mo_open_198 : decode b_Mo_open 198 = .ok (.iastore, 1) := by decide +kernel
theorem d_Mo_open_199 : decode b_Mo_open 199 = .ok (.aload_n 0, 1) := by decide +kernel
theorem d_Mo_open_200 : decode b_Mo_open 200 = .ok (.getfield 38, 3) := by decide +kernel
theorem d_Mo_open_203 : decode b_Mo_open 203 = .ok (.iconst 2, 1) := by decide +kernel
theorem d_Mo_open_204 : decode b_Mo_open 204 = .ok (.iload 4, 2) := by decide +kernel
theorem d_Mo_open_206 : decode b_Mo_open 206 = .ok (.imul, 1) := by decide +kernel
theorem d_Mo_open_207 : decode b_Mo_open 207 = .ok (.iconst 1, 1) := by decide +kernel
theorem d_Mo_open_208 : decode b_Mo_open 208 = .ok (.iadd, 1) := by decide +kernel
theorem d_Mo_open_209 : decode b_Mo_open 209 = .ok (.iload_n 2, 1) := by decide +kernel
theorem d_Mo_open_210 : decode b_Mo_open 210 = .ok (.iastore, 1) := by decide +kernel
theorem d_Mo_open_211 : decode b_Mo_open 211 = .ok (.iconst 2, 1) := by decide +kernel
theorem d_Mo_open_212 : decode b_Mo_open 212 = .ok (.iload 4, 2) := by decide +kernel
theorem d_Mo_open_214 : decode b_Mo_open 214 = .ok (.imul, 1) := by decide +kernel
theorem d_Mo_open_215 : decode b_Mo_open 215 = .ok (.istore 5, 2) := by decide +kernel
theorem d_Mo_open_217 : decode b_Mo_open 217 = .ok (.iload 5, 2) := by decide +kernel
theorem d_Mo_open_219 : decode b_Mo_open 219 = .ok (.iconst 2, 1) := by decide +kernel
theorem d_Mo_open_220 : decode b_Mo_open 220 = .ok (.iload 4, 2) := by decide +kernel
theorem d_Mo_open_222 : decode b_Mo_open 222 = .ok (.imul, 1) := by decide +kernel
theorem d_Mo_open_223 : decode b_Mo_open 223 = .ok (.iconst 2, 1) := by decide +kernel
theorem d_Mo_open_224 : decode b_Mo_open 224 = .ok (.iadd, 1) := by decide +kernel
theorem d_Mo_open_225 : decode b_Mo_open 225 = .ok (.if_icmp .ge 25, 3) := by decide +kernel
theorem d_Mo_open_228 : decode b_Mo_open 228 = .ok (.aload_n 0, 1) := by decide +kernel
theorem d_Mo_open_229 : decode b_Mo_open 229 = .ok (.getfield 41, 3) := by decide +kernel
theorem d_Mo_open_232 : decode b_Mo_open 232 = .ok (.iload 5, 2) := by decide +kernel
theorem d_Mo_open_234 : decode b_Mo_open 234 = .ok (.iconst 1, 1) := by decide +kernel
theorem d_Mo_open_235 : decode b_Mo_open 235 = .ok (.iastore, 1) := by decide +kernel
theorem d_Mo_open_236 : decode b_Mo_open 236 = .ok (.aload_n 0, 1) := by decide +kernel
theorem d_Mo_open_237 : decode b_Mo_open 237 = .ok (.getfield 44, 3) := by decide +kernel
theorem d_Mo_open_240 : decode b_Mo_open 240 = .ok (.iload 5, 2) := by decide +kernel
theorem d_Mo_open_242 : decode b_Mo_open 242 = .ok (.iconst 0, 1) := by decide +kernel
theorem d_Mo_open_243 : decode b_Mo_open 243 = .ok (.iastore, 1) := by decide +kernel
theorem d_Mo_open_244 : decode b_Mo_open 244 = .ok (.iinc 5 1, 3) := by decide +kernel
theorem d_Mo_open_247 : decode b_Mo_open 247 = .ok (.goto (-30), 3) := by decide +kernel
theorem d_Mo_open_250 : decode b_Mo_open 250 = .ok (.iload 4, 2) := by decide +kernel
theorem d_Mo_open_252 : decode b_Mo_open 252 = .ok (.ireturn, 1) := by decide +kernel
theorem d_Mo_notYourEnd_0 : decode b_Mo_notYourEnd 0 = .ok (.aload_n 0, 1) := by decide +kernel
theorem d_Mo_notYourEnd_1 : decode b_Mo_notYourEnd 1 = .ok (.iload_n 1, 1) := by decide +kernel
theorem d_Mo_notYourEnd_2 : decode b_Mo_notYourEnd 2 = .ok (.iconst 0, 1) := by decide +kernel
theorem d_Mo_notYourEnd_3 : decode b_Mo_notYourEnd 3 = .ok (.iconst 3, 1) := by decide +kernel
theorem d_Mo_notYourEnd_4 : decode b_Mo_notYourEnd 4 = .ok (.invokestatic 60, 3) := by decide +kernel
theorem d_Mo_notYourEnd_7 : decode b_Mo_notYourEnd 7 = .ok (.ifCond .eq 17, 3) := by decide +kernel
theorem d_Mo_notYourEnd_10 : decode b_Mo_notYourEnd 10 = .ok (.iload_n 2, 1) := by decide +kernel
theorem d_Mo_notYourEnd_11 : decode b_Mo_notYourEnd 11 = .ok (.iconst 0, 1) := by decide +kernel
theorem d_Mo_notYourEnd_12 : decode b_Mo_notYourEnd 12 = .ok (.bipush 11, 2) := by decide +kernel
theorem d_Mo_notYourEnd_14 : decode b_Mo_notYourEnd 14 = .ok (.invokestatic 60, 3) := by decide +kernel
theorem d_Mo_notYourEnd_17 : decode b_Mo_notYourEnd 17 = .ok (.ifCond .eq 7, 3) := by decide +kernel
theorem d_Mo_notYourEnd_20 : decode b_Mo_notYourEnd 20 = .ok (.iconst 1, 1) := by decide +kernel
theorem d_Mo_notYourEnd_21 : decode b_Mo_notYourEnd 21 = .ok (.goto 4, 3) := by decide +kernel
theorem d_Mo_notYourEnd_24 : decode b_Mo_notYourEnd 24 = .ok (.iconst 0, 1) := by decide +kernel
theorem d_Mo_notYourEnd_25 : decode b_Mo_notYourEnd 25 = .ok (.invokevirtual 64, 3) := by decide +kernel
theorem d_Mo_notYourEnd_28 : decode b_Mo_notYourEnd 28 = .ok (.ifCond .eq 5, 3) := by decide +kernel
theorem d_Mo_notYourEnd_31 : decode b_Mo_notYourEnd 31 = .ok (.iconst 1, 1) := by decide +kernel
theorem d_Mo_notYourEnd_32 : decode b_Mo_notYourEnd 32 = .ok (.ireturn, 1) := by decide +kernel
theorem d_Mo_notYourEnd_33 : decode b_Mo_notYourEnd 33 = .ok (.aload_n 0, 1) := by decide +kernel
theorem d_Mo_notYourEnd_34 : decode b_Mo_notYourEnd 34 = .ok (.getfield 25, 3) := by decide +kernel
theorem d_Mo_notYourEnd_37 : decode b_Mo_notYourEnd 37 = .ok (.iload_n 1, 1) := by decide +kernel
theorem d_Mo_notYourEnd_38 : decode b_Mo_notYourEnd 38 = .ok (.baload, 1) := by decide +kernel
theorem d_Mo_notYourEnd_39 : decode b_Mo_notYourEnd 39 = .ok (.ifCond .eq 13, 3) := by decide +kernel
theorem d_Mo_notYourEnd_42 : decode b_Mo_notYourEnd 42 = .ok (.aload_n 0, 1) := by decide +kernel
theorem d_Mo_notYourEnd_43 : decode b_Mo_notYourEnd 43 = .ok (.getfield 38, 3) := by decide +kernel
theorem d_Mo_notYourEnd_46 : decode b_Mo_notYourEnd 46 = .ok (.iload_n 2, 1) := by decide +kernel
theorem d_Mo_notYourEnd_47 : decode b_Mo_notYourEnd 47 = .ok (.iaload, 1) := by decide +kernel
theorem d_Mo_notYourEnd_48 : decode b_Mo_notYourEnd 48 = .ok (.iload_n 1, 1) := by decide +kernel
theorem d_Mo_notYourEnd_49 : decode b_Mo_notYourEnd 49 = .ok (.if_icmp .eq 8, 3) := by decide +kernel
theorem d_Mo_notYourEnd_52 : decode b_Mo_notYourEnd 52 = .ok (.aload_n 0, 1) := by decide +kernel
theorem d_Mo_notYourEnd_53 : decode b_Mo_notYourEnd 53 = .ok (.iconst 2, 1) := by decide +kernel
theorem d_Mo_notYourEnd_54 : decode b_Mo_notYourEnd 54 = .ok (.putfield 56, 3) := by decide +kernel
theorem d_Mo_notYourEnd_57 : decode b_Mo_notYourEnd 57 = .ok (.aload_n 0, 1) := by decide +kernel
theorem d_Mo_notYourEnd_58 : decode b_Mo_notYourEnd 58 = .ok (.getfield 56, 3) := by decide +kernel
theorem d_Mo_notYourEnd_61 : decode b_Mo_notYourEnd 61 = .ok (.ifCond .le 7, 3) := by decide +kernel
theorem d_Mo_notYourEnd_64 : decode b_Mo_notYourEnd 64 = .ok (.iconst 1, 1) := by decide +kernel
theorem d_Mo_notYourEnd_65 : decode b_Mo_notYourEnd 65 = .ok (.goto 4, 3) := by decide +kernel
theorem d_Mo_notYourEnd_68 : decode b_Mo_notYourEnd 68 = .ok (.iconst 0, 1) := by decide +kernel
theorem d_Mo_notYourEnd_69 : decode b_Mo_notYourEnd 69 = .ok (.ireturn, 1) := by decide +kernel
theorem d_Mo_say_0 : decode b_Mo_say 0 = .ok (.aload_n 0, 1) := by decide +kernel
theorem d_Mo_say_1 : decode b_Mo_say 1 = .ok (.iload_n 1, 1) := by decide +kernel
theorem d_Mo_say_2 : decode b_Mo_say 2 = .ok (.iconst 0, 1) := by decide +kernel
theorem d_Mo_say_3 : decode b_Mo_say 3 = .ok (.iconst 3, 1) := by decide +kernel
theorem d_Mo_say_4 : decode b_Mo_say 4 = .ok (.invokestatic 60, 3) := by decide +kernel
theorem d_Mo_say_7 : decode b_Mo_say 7 = .ok (.ifCond .eq 27, 3) := by decide +kernel
theorem d_Mo_say_10 : decode b_Mo_say 10 = .ok (.iload_n 2, 1) := by decide +kernel
theorem d_Mo_say_11 : decode b_Mo_say 11 = .ok (.iconst 0, 1) := by decide +kernel
theorem d_Mo_say_12 : decode b_Mo_say 12 = .ok (.bipush 11, 2) := by decide +kernel
theorem d_Mo_say_14 : decode b_Mo_say 14 = .ok (.invokestatic 60, 3) := by decide +kernel
theorem d_Mo_say_17 : decode b_Mo_say 17 = .ok (.ifCond .eq 17, 3) := by decide +kernel
theorem d_Mo_say_20 : decode b_Mo_say 20 = .ok (.iload_n 3, 1) := by decide +kernel
theorem d_Mo_say_21 : decode b_Mo_say 21 = .ok (.iconst 0, 1) := by decide +kernel
theorem d_Mo_say_22 : decode b_Mo_say 22 = .ok (.bipush 6, 2) := by decide +kernel
theorem d_Mo_say_24 : decode b_Mo_say 24 = .ok (.invokestatic 60, 3) := by decide +kernel
theorem d_Mo_say_27 : decode b_Mo_say 27 = .ok (.ifCond .eq 7, 3) := by decide +kernel
theorem d_Mo_say_30 : decode b_Mo_say 30 = .ok (.iconst 1, 1) := by decide +kernel
theorem d_Mo_say_31 : decode b_Mo_say 31 = .ok (.goto 4, 3) := by decide +kernel
theorem d_Mo_say_34 : decode b_Mo_say 34 = .ok (.iconst 0, 1) := by decide +kernel
theorem d_Mo_say_35 : decode b_Mo_say 35 = .ok (.invokevirtual 64, 3) := by decide +kernel
theorem d_Mo_say_38 : decode b_Mo_say 38 = .ok (.ifCond .ne 12, 3) := by decide +kernel
theorem d_Mo_say_41 : decode b_Mo_say 41 = .ok (.aload_n 0, 1) := by decide +kernel
theorem d_Mo_say_42 : decode b_Mo_say 42 = .ok (.iload_n 1, 1) := by decide +kernel
theorem d_Mo_say_43 : decode b_Mo_say 43 = .ok (.iload_n 2, 1) := by decide +kernel
theorem d_Mo_say_44 : decode b_Mo_say 44 = .ok (.invokevirtual 114, 3) := by decide +kernel
theorem d_Mo_say_47 : decode b_Mo_say 47 = .ok (.ifCond .eq 4, 3) := by decide +kernel
theorem d_Mo_say_50 : decode b_Mo_say 50 = .ok (.return_, 1) := by decide +kernel
theorem d_Mo_say_51 : decode b_Mo_say 51 = .ok (.iload_n 2, 1) := by decide +kernel
theorem d_Mo_say_52 : decode b_Mo_say 52 = .ok (.iconst 1, 1) := by decide +kernel
theorem d_Mo_say_53 : decode b_Mo_say 53 = .ok (.ixor, 1) := by decide +kernel
theorem d_Mo_say_54 : decode b_Mo_say 54 = .ok (.istore 5, 2) := by decide +kernel
theorem d_Mo_say_56 : decode b_Mo_say 56 = .ok (.iload_n 3, 1) := by decide +kernel
theorem d_Mo_say_57 : decode b_Mo_say 57 = .ok (.iconst 3, 1) := by decide +kernel
theorem d_Mo_say_58 : decode b_Mo_say 58 = .ok (.if_icmp .lt 72, 3) := by decide +kernel
theorem d_Mo_say_61 : decode b_Mo_say 61 = .ok (.iload_n 3, 1) := by decide +kernel
theorem d_Mo_say_62 : decode b_Mo_say 62 = .ok (.bipush 6, 2) := by decide +kernel
theorem d_Mo_say_64 : decode b_Mo_say 64 = .ok (.if_icmp .ge 25, 3) := by decide +kernel
theorem d_Mo_say_67 : decode b_Mo_say 67 = .ok (.iload 4, 2) := by decide +kernel
theorem d_Mo_say_69 : decode b_Mo_say 69 = .ok (.iconst 0, 1) := by decide +kernel
theorem d_Mo_say_70 : decode b_Mo_say 70 = .ok (.bipush 11, 2) := by decide +kernel
theorem d_Mo_say_72 : decode b_Mo_say 72 = .ok (.invokestatic 60, 3) := by decide +kernel
theorem d_Mo_say_75 : decode b_Mo_say 75 = .ok (.ifCond .eq 14, 3) := by decide +kernel
theorem d_Mo_say_78 : decode b_Mo_say 78 = .ok (.aload_n 0, 1) := by decide +kernel
theorem d_Mo_say_79 : decode b_Mo_say 79 = .ok (.getfield 29, 3) := by decide +kernel
theorem d_Mo_say_82 : decode b_Mo_say 82 = .ok (.iload 4, 2) := by decide +kernel
theorem d_Mo_say_84 : decode b_Mo_say 84 = .ok (.iaload, 1) := by decide +kernel
theorem d_Mo_say_85 : decode b_Mo_say 85 = .ok (.iload_n 1, 1) := by decide +kernel
theorem d_Mo_say_86 : decode b_Mo_say 86 = .ok (.if_icmp .eq 44, 3) := by decide +kernel
theorem d_Mo_say_89 : decode b_Mo_say 89 = .ok (.iload_n 3, 1) := by decide +kernel
theorem d_Mo_say_90 : decode b_Mo_say 90 = .ok (.bipush 6, 2) := by decide +kernel
theorem d_Mo_say_92 : decode b_Mo_say 92 = .ok (.if_icmp .ne 42, 3) := by decide +kernel
theorem d_Mo_say_95 : decode b_Mo_say 95 = .ok (.iload 4, 2) := by decide +kernel
theorem d_Mo_say_97 : decode b_Mo_say 97 = .ok (.iconst 0, 1) := by decide +kernel
theorem d_Mo_say_98 : decode b_Mo_say 98 = .ok (.bipush 11, 2) := by decide +kernel
theorem d_Mo_say_100 : decode b_Mo_say 100 = .ok (.invokestatic 60, 3) := by decide +kernel
theorem d_Mo_say_103 : decode b_Mo_say 103 = .ok (.ifCond .eq 31, 3) := by decide +kernel
theorem d_Mo_say_106 : decode b_Mo_say 106 = .ok (.aload_n 0, 1) := by decide +kernel
theorem d_Mo_say_107 : decode b_Mo_say 107 = .ok (.getfield 38, 3) := by decide +kernel
theorem d_Mo_say_110 : decode b_Mo_say 110 = .ok (.iload 4, 2) := by decide +kernel
theorem d_Mo_say_112 : decode b_Mo_say 112 = .ok (.iaload, 1) := by decide +kernel
theorem d_Mo_say_113 : decode b_Mo_say 113 = .ok (.iload_n 1, 1) := by decide +kernel
theorem d_Mo_say_114 : decode b_Mo_say 114 = .ok (.if_icmp .ne 20, 3) := by decide +kernel
theorem d_Mo_say_117 : decode b_Mo_say 117 = .ok (.iload 4, 2) := by decide +kernel
theorem d_Mo_say_119 : decode b_Mo_say 119 = .ok (.iload_n 2, 1) := by decide +kernel
theorem d_Mo_say_120 : decode b_Mo_say 120 = .ok (.if_icmp .eq 14, 3) := by decide +kernel
theorem d_Mo_say_123 : decode b_Mo_say 123 = .ok (.iload 4, 2) := by decide +kernel
theorem d_Mo_say_125 : decode b_Mo_say 125 = .ok (.iload 5, 2) := by decide +kernel
theorem d_Mo_say_127 : decode b_Mo_say 127 = .ok (.if_icmp .eq 7, 3) := by decide +kernel
theorem d_Mo_say_130 : decode b_Mo_say 130 = .ok (.iconst 1, 1) := by decide +kernel
theorem d_Mo_say_131 : decode b_Mo_say 131 = .ok (.goto 4, 3) := by decide +kernel
theorem d_Mo_say_134 : decode b_Mo_say 134 = .ok (.iconst 0, 1) := by decide +kernel
theorem d_Mo_say_135 : decode b_Mo_say 135 = .ok (.istore 6, 2) := by decide +kernel
theorem d_Mo_say_137 : decode b_Mo_say 137 = .ok (.aload_n 0, 1) := by decide +kernel
theorem d_Mo_say_138 : decode b_Mo_say 138 = .ok (.iload_n 2, 1) := by decide +kernel
theorem d_Mo_say_139 : decode b_Mo_say 139 = .ok (.iload_n 3, 1) := by decide +kernel
theorem d_Mo_say_140 : decode b_Mo_say 140 = .ok (.iload_n 2, 1) := by decide +kernel
theorem d_Mo_say_141 : decode b_Mo_say 141 = .ok (.iconst 2, 1) := by decide +kernel
theorem d_Mo_say_142 : decode b_Mo_say 142 = .ok (.irem, 1) := by decide +kernel
theorem d_Mo_say_143 : decode b_Mo_say 143 = .ok (.invokevirtual 117, 3) := by decide +kernel
theorem d_Mo_say_146 : decode b_Mo_say 146 = .ok (.ifCond .eq 8, 3) := by decide +kernel
theorem d_Mo_say_149 : decode b_Mo_say 149 = .ok (.iload 6, 2) := by decide +kernel
theorem d_Mo_say_151 : decode b_Mo_say 151 = .ok (.ifCond .ne 11, 3) := by decide +kernel
theorem d_Mo_say_154 : decode b_Mo_say 154 = .ok (.aload_n 0, 1) := by decide +kernel
theorem d_Mo_say_155 : decode b_Mo_say 155 = .ok (.iconst 2, 1) := by decide +kernel
theorem d_Mo_say_156 : decode b_Mo_say 156 = .ok (.putfield 56, 3) := by decide +kernel
theorem d_Mo_say_159 : decode b_Mo_say 159 = .ok (.goto 37, 3) := by decide +kernel
theorem d_Mo_say_162 : decode b_Mo_say 162 = .ok (.aload_n 0, 1) := by decide +kernel
theorem d_Mo_say_163 : decode b_Mo_say 163 = .ok (.getfield 38, 3) := by decide +kernel
theorem d_Mo_say_166 : decode b_Mo_say 166 = .ok (.iload 5, 2) := by decide +kernel
theorem d_Mo_say_168 : decode b_Mo_say 168 = .ok (.iaload, 1) := by decide +kernel
theorem d_Mo_say_169 : decode b_Mo_say 169 = .ok (.ifCond .ge 11, 3) := by decide +kernel
theorem d_Mo_say_172 : decode b_Mo_say 172 = .ok (.aload_n 0, 1) := by decide +kernel
theorem d_Mo_say_173 : decode b_Mo_say 173 = .ok (.iconst 3, 1) := by decide +kernel
theorem d_Mo_say_174 : decode b_Mo_say 174 = .ok (.putfield 56, 3) := by decide +kernel
theorem d_Mo_say_177 : decode b_Mo_say 177 = .ok (.goto 19, 3) := by decide +kernel
theorem d_Mo_say_180 : decode b_Mo_say 180 = .ok (.aload_n 0, 1) := by decide +kernel
theorem d_Mo_say_181 : decode b_Mo_say 181 = .ok (.getfield 44, 3) := by decide +kernel
theorem d_Mo_say_184 : decode b_Mo_say 184 = .ok (.iload 5, 2) := by decide +kernel
theorem d_Mo_say_186 : decode b_Mo_say 186 = .ok (.iaload, 1) := by decide +kernel
theorem d_Mo_say_187 : decode b_Mo_say 187 = .ok (.iconst 3, 1) := by decide +kernel
theorem d_Mo_say_188 : decode b_Mo_say 188 = .ok (.if_icmp .ne 8, 3) := by decide +kernel
theorem d_Mo_say_191 : decode b_Mo_say 191 = .ok (.aload_n 0, 1) := by decide +kernel
theorem d_Mo_say_192 : decode b_Mo_say 192 = .ok (.iconst 2, 1) := by decide +kernel
theorem d_Mo_say_193 : decode b_Mo_say 193 = .ok (.putfield 56, 3) := by decide +kernel
theorem d_Mo_say_196 : decode b_Mo_say 196 = .ok (.aload_n 0, 1) := by decide +kernel
theorem d_Mo_say_197 : decode b_Mo_say 197 = .ok (.getfield 56, 3) := by decide +kernel
theorem d_Mo_say_200 : decode b_Mo_say 200 = .ok (.ifCond .le 4, 3) := by decide +kernel
theorem d_Mo_say_203 : decode b_Mo_say 203 = .ok (.return_, 1) := by decide +kernel
theorem d_Mo_say_204 : decode b_Mo_say 204 = .ok (.aload_n 0, 1) := by decide +kernel
theorem d_Mo_say_205 : decode b_Mo_say 205 = .ok (.getfield 41, 3) := by decide +kernel
theorem d_Mo_say_208 : decode b_Mo_say 208 = .ok (.iload_n 2, 1) := by decide +kernel
theorem d_Mo_say_209 : decode b_Mo_say 209 = .ok (.aload_n 0, 1) := by decide +kernel
theorem d_Mo_say_210 : decode b_Mo_say 210 = .ok (.getfield 82, 3) := by decide +kernel
theorem d_Mo_say_213 : decode b_Mo_say 213 = .ok (.iastore, 1) := by decide +kernel
theorem d_Mo_say_214 : decode b_Mo_say 214 = .ok (.aload_n 0, 1) := by decide +kernel
theorem d_Mo_say_215 : decode b_Mo_say 215 = .ok (.getfield 47, 3) := by decide +kernel
theorem d_Mo_say_218 : decode b_Mo_say 218 = .ok (.iload 5, 2) := by decide +kernel
theorem d_Mo_say_220 : decode b_Mo_say 220 = .ok (.iconst 3, 1) := by decide +kernel
theorem d_Mo_say_221 : decode b_Mo_say 221 = .ok (.imul, 1) := by decide +kernel
theorem d_Mo_say_222 : decode b_Mo_say 222 = .ok (.aload_n 0, 1) := by decide +kernel
theorem d_Mo_say_223 : decode b_Mo_say 223 = .ok (.getfield 44, 3) := by decide +kernel
theorem d_Mo_say_226 : decode b_Mo_say 226 = .ok (.iload 5, 2) := by decide +kernel
theorem d_Mo_say_228 : decode b_Mo_say 228 = .ok (.iaload, 1) := by decide +kernel
theorem d_Mo_say_229 : decode b_Mo_say 229 = .ok (.iadd, 1) := by decide +kernel
theorem d_Mo_say_230 : decode b_Mo_say 230 = .ok (.iload_n 3, 1) := by decide +kernel
theorem d_Mo_say_231 : decode b_Mo_say 231 = .ok (.iastore, 1) := by decide +kernel
theorem d_Mo_say_232 : decode b_Mo_say 232 = .ok (.aload_n 0, 1) := by decide +kernel
theorem d_Mo_say_233 : decode b_Mo_say 233 = .ok (.getfield 50, 3) := by decide +kernel
theorem d_Mo_say_236 : decode b_Mo_say 236 = .ok (.iload 5, 2) := by decide +kernel
theorem d_Mo_say_238 : decode b_Mo_say 238 = .ok (.iconst 3, 1) := by decide +kernel
theorem d_Mo_say_239 : decode b_Mo_say 239 = .ok (.imul, 1) := by decide +kernel
theorem d_Mo_say_240 : decode b_Mo_say 240 = .ok (.aload_n 0, 1) := by decide +kernel
theorem d_Mo_say_241 : decode b_Mo_say 241 = .ok (.getfield 44, 3) := by decide +kernel
theorem d_Mo_say_244 : decode b_Mo_say 244 = .ok (.iload 5, 2) := by decide +kernel
theorem d_Mo_say_246 : decode b_Mo_say 246 = .ok (.iaload, 1) := by decide +kernel
theorem d_Mo_say_247 : decode b_Mo_say 247 = .ok (.iadd, 1) := by decide +kernel
theorem d_Mo_say_248 : decode b_Mo_say 248 = .ok (.iload 4, 2) := by decide +kernel
theorem d_Mo_say_250 : decode b_Mo_say 250 = .ok (.iastore, 1) := by decide +kernel
theorem d_Mo_say_251 : decode b_Mo_say 251 = .ok (.aload_n 0, 1) := by decide +kernel
theorem d_Mo_say_252 : decode b_Mo_say 252 = .ok (.getfield 44, 3) := by decide +kernel
theorem d_Mo_say_255 : decode b_Mo_say 255 = .ok (.iload 5, 2) := by decide +kernel
theorem d_Mo_say_257 : decode b_Mo_say 257 = .ok (.dup2, 1) := by decide +kernel
theorem d_Mo_say_258 : decode b_Mo_say 258 = .ok (.iaload, 1) := by decide +kernel
theorem d_Mo_say_259 : decode b_Mo_say 259 = .ok (.iconst 1, 1) := by decide +kernel
theorem d_Mo_say_260 : decode b_Mo_say 260 = .ok (.iadd, 1) := by decide +kernel
theorem d_Mo_say_261 : decode b_Mo_say 261 = .ok (.iastore, 1) := by decide +kernel
theorem d_Mo_say_262 : decode b_Mo_say 262 = .ok (.iload_n 3, 1) := by decide +kernel
theorem d_Mo_say_263 : decode b_Mo_say 263 = .ok (.bipush 6, 2) := by decide +kernel
theorem d_Mo_say_265 : decode b_Mo_say 265 = .ok (.if_icmp .ne 14, 3) := by decide +kernel
theorem d_Mo_say_268 : decode b_Mo_say 268 = .ok (.aload_n 0, 1) := by decide +kernel
theorem d_Mo_say_269 : decode b_Mo_say 269 = .ok (.getfield 38, 3) := by decide +kernel
theorem d_Mo_say_272 : decode b_Mo_say 272 = .ok (.iload 4, 2) := by decide +kernel
theorem d_Mo_say_274 : decode b_Mo_say 274 = .ok (.iconst 4, 1) := by decide +kernel
theorem d_Mo_say_275 : decode b_Mo_say 275 = .ok (.iastore, 1) := by decide +kernel
theorem d_Mo_say_276 : decode b_Mo_say 276 = .ok (.goto 16, 3) := by decide +kernel
theorem d_Mo_say_279 : decode b_Mo_say 279 = .ok (.iload_n 3, 1) := by decide +kernel
theorem d_Mo_say_280 : decode b_Mo_say 280 = .ok (.iconst 2, 1) := by decide +kernel
theorem d_Mo_say_281 : decode b_Mo_say 281 = .ok (.if_icmp .le 11, 3) := by decide +kernel
theorem d_Mo_say_284 : decode b_Mo_say 284 = .ok (.aload_n 0, 1) := by decide +kernel
theorem d_Mo_say_285 : decode b_Mo_say 285 = .ok (.getfield 29, 3) := by decide +kernel
theorem d_Mo_say_288 : decode b_Mo_say 288 = .ok (.iload 4, 2) := by decide +kernel
theorem d_Mo_say_290 : decode b_Mo_say 290 = .ok (.iconst 4, 1) := by decide +kernel
theorem d_Mo_say_291 : decode b_Mo_say 291 = .ok (.iastore, 1) := by decide +kernel
theorem d_Mo_say_292 : decode b_Mo_say 292 = .ok (.aload_n 0, 1) := by decide +kernel
theorem d_Mo_say_293 : decode b_Mo_say 293 = .ok (.dup, 1) := by decide +kernel
theorem d_Mo_say_294 : decode b_Mo_say 294 = .ok (.getfield 120, 3) := by decide +kernel
theorem d_Mo_say_297 : decode b_Mo_say 297 = .ok (.iconst 1, 1) := by decide +kernel
theorem d_Mo_say_298 : decode b_Mo_say 298 = .ok (.iadd, 1) := by decide +kernel
theorem d_Mo_say_299 : decode b_Mo_say 299 = .ok (.putfield 120, 3) := by decide +kernel
theorem d_Mo_say_302 : decode b_Mo_say 302 = .ok (.return_, 1) := by decide +kernel
theorem d_Mo_hear_0 : decode b_Mo_hear 0 = .ok (.aload_n 0, 1) := by decide +kernel
theorem d_Mo_hear_1 : decode b_Mo_hear 1 = .ok (.iload_n 1, 1) := by decide +kernel
theorem d_Mo_hear_2 : decode b_Mo_hear 2 = .ok (.iload_n 2, 1) := by decide +kernel
theorem d_Mo_hear_3 : decode b_Mo_hear 3 = .ok (.invokevirtual 114, 3) := by decide +kernel
theorem d_Mo_hear_6 : decode b_Mo_hear 6 = .ok (.ifCond .eq 5, 3) := by decide +kernel
theorem d_Mo_hear_9 : decode b_Mo_hear 9 = .ok (.iconst 0, 1) := by decide +kernel
theorem d_Mo_hear_10 : decode b_Mo_hear 10 = .ok (.ireturn, 1) := by decide +kernel
theorem d_Mo_hear_11 : decode b_Mo_hear 11 = .ok (.aload_n 0, 1) := by decide +kernel
theorem d_Mo_hear_12 : decode b_Mo_hear 12 = .ok (.getfield 44, 3) := by decide +kernel
theorem d_Mo_hear_15 : decode b_Mo_hear 15 = .ok (.iload_n 2, 1) := by decide +kernel
theorem d_Mo_hear_16 : decode b_Mo_hear 16 = .ok (.iaload, 1) := by decide +kernel
theorem d_Mo_hear_17 : decode b_Mo_hear 17 = .ok (.ifCond .ne 9, 3) := by decide +kernel
theorem d_Mo_hear_20 : decode b_Mo_hear 20 = .ok (.aload_n 0, 1) := by decide +kernel
theorem d_Mo_hear_21 : decode b_Mo_hear 21 = .ok (.iconst 3, 1) := by decide +kernel
theorem d_Mo_hear_22 : decode b_Mo_hear 22 = .ok (.invokevirtual 71, 3) := by decide +kernel
theorem d_Mo_hear_25 : decode b_Mo_hear 25 = .ok (.ireturn, 1) := by decide +kernel
theorem d_Mo_hear_26 : decode b_Mo_hear 26 = .ok (.aload_n 0, 1) := by decide +kernel
theorem d_Mo_hear_27 : decode b_Mo_hear 27 = .ok (.getfield 47, 3) := by decide +kernel
theorem d_Mo_hear_30 : decode b_Mo_hear 30 = .ok (.iload_n 2, 1) := by decide +kernel
theorem d_Mo_hear_31 : decode b_Mo_hear 31 = .ok (.iconst 3, 1) := by decide +kernel
theorem d_Mo_hear_32 : decode b_Mo_hear 32 = .ok (.imul, 1) := by decide +kernel
theorem d_Mo_hear_33 : decode b_Mo_hear 33 = .ok (.iaload, 1) := by decide +kernel
theorem d_Mo_hear_34 : decode b_Mo_hear 34 = .ok (.istore_n 3, 1) := by decide +kernel
theorem d_Mo_hear_35 : decode b_Mo_hear 35 = .ok (.aload_n 0, 1) := by decide +kernel
theorem d_Mo_hear_36 : decode b_Mo_hear 36 = .ok (.getfield 50, 3) := by decide +kernel
theorem d_Mo_hear_39 : decode b_Mo_hear 39 = .ok (.iload_n 2, 1) := by decide +kernel
theorem d_Mo_hear_40 : decode b_Mo_hear 40 = .ok (.iconst 3, 1) := by decide +kernel
theorem d_Mo_hear_41 : decode b_Mo_hear 41 = .ok (.imul, 1) := by decide +kernel
theorem d_Mo_hear_42 : decode b_Mo_hear 42 = .ok (.iaload, 1) := by decide +kernel
theorem d_Mo_hear_43 : decode b_Mo_hear 43 = .ok (.istore 4, 2) := by decide +kernel
theorem d_Mo_hear_45 : decode b_Mo_hear 45 = .ok (.aload_n 0, 1) := by decide +kernel
theorem d_Mo_hear_46 : decode b_Mo_hear 46 = .ok (.iload_n 2, 1) := by decide +kernel
theorem d_Mo_hear_47 : decode b_Mo_hear 47 = .ok (.iload_n 3, 1) := by decide +kernel
theorem d_Mo_hear_48 : decode b_Mo_hear 48 = .ok (.iconst 1, 1) := by decide +kernel
theorem d_Mo_hear_49 : decode b_Mo_hear 49 = .ok (.iload_n 2, 1) := by decide +kernel
theorem d_Mo_hear_50 : decode b_Mo_hear 50 = .ok (.iconst 2, 1) := by decide +kernel
theorem d_Mo_hear_51 : decode b_Mo_hear 51 = .ok (.irem, 1) := by decide +kernel
theorem d_Mo_hear_52 : decode b_Mo_hear 52 = .ok (.isub, 1) := by decide +kernel
theorem d_Mo_hear_53 : decode b_Mo_hear 53 = .ok (.invokevirtual 117, 3) := by decide +kernel
theorem d_Mo_hear_56 : decode b_Mo_hear 56 = .ok (.ifCond .ne 9, 3) := by decide +kernel
theorem d_Mo_hear_59 : decode b_Mo_hear 59 = .ok (.aload_n 0, 1) := by decide +kernel
theorem d_Mo_hear_60 : decode b_Mo_hear 60 = .ok (.iconst 2, 1) := by decide +kernel
theorem d_Mo_hear_61 : decode b_Mo_hear 61 = .ok (.invokevirtual 71, 3) := by decide +kernel
theorem d_Mo_hear_64 : decode b_Mo_hear 64 = .ok (.ireturn, 1) := by decide +kernel
theorem d_Mo_hear_65 : decode b_Mo_hear 65 = .ok (.aload_n 0, 1) := by decide +kernel
theorem d_Mo_hear_66 : decode b_Mo_hear 66 = .ok (.getfield 41, 3) := by decide +kernel
theorem d_Mo_hear_69 : decode b_Mo_hear 69 = .ok (.iload_n 2, 1) := by decide +kernel
theorem d_Mo_hear_70 : decode b_Mo_hear 70 = .ok (.aload_n 0, 1) := by decide +kernel
theorem d_Mo_hear_71 : decode b_Mo_hear 71 = .ok (.getfield 82, 3) := by decide +kernel
theorem d_Mo_hear_74 : decode b_Mo_hear 74 = .ok (.iastore, 1) := by decide +kernel
theorem d_Mo_hear_75 : decode b_Mo_hear 75 = .ok (.aload_n 0, 1) := by decide +kernel
theorem d_Mo_hear_76 : decode b_Mo_hear 76 = .ok (.getfield 44, 3) := by decide +kernel
theorem d_Mo_hear_79 : decode b_Mo_hear 79 = .ok (.iload_n 2, 1) := by decide +kernel
theorem d_Mo_hear_80 : decode b_Mo_hear 80 = .ok (.dup2, 1) := by decide +kernel
theorem d_Mo_hear_81 : decode b_Mo_hear 81 = .ok (.iaload, 1) := by decide +kernel
theorem d_Mo_hear_82 : decode b_Mo_hear 82 = .ok (.iconst 1, 1) := by decide +kernel
theorem d_Mo_hear_83 : decode b_Mo_hear 83 = .ok (.isub, 1) := by decide +kernel
theorem d_Mo_hear_84 : decode b_Mo_hear 84 = .ok (.iastore, 1) := by decide +kernel
theorem d_Mo_hear_85 : decode b_Mo_hear 85 = .ok (.iload_n 2, 1) := by decide +kernel
theorem d_Mo_hear_86 : decode b_Mo_hear 86 = .ok (.iconst 3, 1) := by decide +kernel
theorem d_Mo_hear_87 : decode b_Mo_hear 87 = .ok (.imul, 1) := by decide +kernel
theorem d_Mo_hear_88 : decode b_Mo_hear 88 = .ok (.istore 5, 2) := by decide +kernel
theorem d_Mo_hear_90 : decode b_Mo_hear 90 = .ok (.iload 5, 2) := by decide +kernel
theorem d_Mo_hear_92 : decode b_Mo_hear 92 = .ok (.iload_n 2, 1) := by decide +kernel
theorem d_Mo_hear_93 : decode b_Mo_hear 93 = .ok (.iconst 3, 1) := by decide +kernel
theorem d_Mo_hear_94 : decode b_Mo_hear 94 = .ok (.imul, 1) := by decide +kernel
theorem d_Mo_hear_95 : decode b_Mo_hear 95 = .ok (.aload_n 0, 1) := by decide +kernel
theorem d_Mo_hear_96 : decode b_Mo_hear 96 = .ok (.getfield 44, 3) := by decide +kernel
theorem d_Mo_hear_99 : decode b_Mo_hear 99 = .ok (.iload_n 2, 1) := by decide +kernel
theorem d_Mo_hear_100 : decode b_Mo_hear 100 = .ok (.iaload, 1) := by decide +kernel
theorem d_Mo_hear_101 : decode b_Mo_hear 101 = .ok (.iadd, 1) := by decide +kernel
theorem d_Mo_hear_102 : decode b_Mo_hear 102 = .ok (.if_icmp .ge 41, 3) := by decide +kernel
theorem d_Mo_hear_105 : decode b_Mo_hear 105 = .ok (.aload_n 0, 1) := by decide +kernel
theorem d_Mo_hear_106 : decode b_Mo_hear 106 = .ok (.getfield 47, 3) := by decide +kernel
theorem d_Mo_hear_109 : decode b_Mo_hear 109 = .ok (.iload 5, 2) := by decide +kernel
theorem d_Mo_hear_111 : decode b_Mo_hear 111 = .ok (.aload_n 0, 1) := by decide +kernel
theorem d_Mo_hear_112 : decode b_Mo_hear 112 = .ok (.getfield 47, 3) := by decide +kernel
theorem d_Mo_hear_115 : decode b_Mo_hear 115 = .ok (.iload 5, 2) := by decide +kernel
theorem d_Mo_hear_117 : decode b_Mo_hear 117 = .ok (.iconst 1, 1) := by decide +kernel
theorem d_Mo_hear_118 : decode b_Mo_hear 118 = .ok (.iadd, 1) := by decide +kernel
theorem d_Mo_hear_119 : decode b_Mo_hear 119 = .ok (.iaload, 1) := by decide +kernel
theorem d_Mo_hear_120 : decode b_Mo_hear 120 = .ok (.iastore, 1) := by decide +kernel
theorem d_Mo_hear_121 : decode b_Mo_hear 121 = .ok (.aload_n 0, 1) := by decide +kernel
theorem d_Mo_hear_122 : decode b_Mo_hear 122 = .ok (.getfield 50, 3) := by decide +kernel
theorem d_Mo_hear_125 : decode b_Mo_hear 125 = .ok (.iload 5, 2) := by decide +kernel
theorem d_Mo_hear_127 : decode b_Mo_hear 127 = .ok (.aload_n 0, 1) := by decide +kernel
theorem d_Mo_hear_128 : decode b_Mo_hear 128 = .ok (.getfield 50, 3) := by decide +kernel
theorem d_Mo_hear_131 : decode b_Mo_hear 131 = .ok (.iload 5, 2) := by decide +kernel
theorem d_Mo_hear_133 : decode b_Mo_hear 133 = .ok (.iconst 1, 1) := by decide +kernel
theorem d_Mo_hear_134 : decode b_Mo_hear 134 = .ok (.iadd, 1) := by decide +kernel
theorem d_Mo_hear_135 : decode b_Mo_hear 135 = .ok (.iaload, 1) := by decide +kernel
theorem d_Mo_hear_136 : decode b_Mo_hear 136 = .ok (.iastore, 1) := by decide +kernel
theorem d_Mo_hear_137 : decode b_Mo_hear 137 = .ok (.iinc 5 1, 3) := by decide +kernel
theorem d_Mo_hear_140 : decode b_Mo_hear 140 = .ok (.goto (-50), 3) := by decide +kernel
theorem d_Mo_hear_143 : decode b_Mo_hear 143 = .ok (.iload_n 3, 1) := by decide +kernel
theorem d_Mo_hear_144 : decode b_Mo_hear 144 = .ok (.bipush 6, 2) := by decide +kernel
theorem d_Mo_hear_146 : decode b_Mo_hear 146 = .ok (.if_icmp .ne 14, 3) := by decide +kernel
theorem d_Mo_hear_149 : decode b_Mo_hear 149 = .ok (.aload_n 0, 1) := by decide +kernel
theorem d_Mo_hear_150 : decode b_Mo_hear 150 = .ok (.getfield 38, 3) := by decide +kernel
theorem d_Mo_hear_153 : decode b_Mo_hear 153 = .ok (.iload 4, 2) := by decide +kernel
theorem d_Mo_hear_155 : decode b_Mo_hear 155 = .ok (.iload_n 1, 1) := by decide +kernel
theorem d_Mo_hear_156 : decode b_Mo_hear 156 = .ok (.iastore, 1) := by decide +kernel
theorem d_Mo_hear_157 : decode b_Mo_hear 157 = .ok (.goto 16, 3) := by decide +kernel
theorem d_Mo_hear_160 : decode b_Mo_hear 160 = .ok (.iload_n 3, 1) := by decide +kernel
theorem d_Mo_hear_161 : decode b_Mo_hear 161 = .ok (.iconst 2, 1) := by decide +kernel
theorem d_Mo_hear_162 : decode b_Mo_hear 162 = .ok (.if_icmp .le 11, 3) := by decide +kernel
theorem d_Mo_hear_165 : decode b_Mo_hear 165 = .ok (.aload_n 0, 1) := by decide +kernel
theorem d_Mo_hear_166 : decode b_Mo_hear 166 = .ok (.getfield 29, 3) := by decide +kernel
theorem d_Mo_hear_169 : decode b_Mo_hear 169 = .ok (.iload 4, 2) := by decide +kernel
theorem d_Mo_hear_171 : decode b_Mo_hear 171 = .ok (.iload_n 1, 1) := by decide +kernel
theorem d_Mo_hear_172 : decode b_Mo_hear 172 = .ok (.iastore, 1) := by decide +kernel
theorem d_Mo_hear_173 : decode b_Mo_hear 173 = .ok (.aload_n 0, 1) := by decide +kernel
theorem d_Mo_hear_174 : decode b_Mo_hear 174 = .ok (.dup, 1) := by decide +kernel
theorem d_Mo_hear_175 : decode b_Mo_hear 175 = .ok (.getfield 123, 3) := by decide +kernel
theorem d_Mo_hear_178 : decode b_Mo_hear 178 = .ok (.iconst 1, 1) := by decide +kernel
theorem d_Mo_hear_179 : decode b_Mo_hear 179 = .ok (.iadd, 1) := by decide +kernel
theorem d_Mo_hear_180 : decode b_Mo_hear 180 = .ok (.putfield 123, 3) := by decide +kernel
theorem d_Mo_hear_183 : decode b_Mo_hear 183 = .ok (.bipush 16, 2) := by decide +kernel
theorem d_Mo_hear_185 : decode b_Mo_hear 185 = .ok (.iload_n 3, 1) := by decide +kernel
theorem d_Mo_hear_186 : decode b_Mo_hear 186 = .ok (.imul, 1) := by decide +kernel
theorem d_Mo_hear_187 : decode b_Mo_hear 187 = .ok (.iload_n 3, 1) := by decide +kernel
theorem d_Mo_hear_188 : decode b_Mo_hear 188 = .ok (.iconst 3, 1) := by decide +kernel
theorem d_Mo_hear_189 : decode b_Mo_hear 189 = .ok (.if_icmp .ge 11, 3) := by decide +kernel
theorem d_Mo_hear_192 : decode b_Mo_hear 192 = .ok (.iload 4, 2) := by decide +kernel
theorem d_Mo_hear_194 : decode b_Mo_hear 194 = .ok (.bipush 15, 2) := by decide +kernel
theorem d_Mo_hear_196 : decode b_Mo_hear 196 = .ok (.iand, 1) := by decide +kernel
theorem d_Mo_hear_197 : decode b_Mo_hear 197 = .ok (.goto 5, 3) := by decide +kernel
theorem d_Mo_hear_200 : decode b_Mo_hear 200 = .ok (.iload 4, 2) := by decide +kernel
theorem d_Mo_hear_202 : decode b_Mo_hear 202 = .ok (.iadd, 1) := by decide +kernel
theorem d_Mo_hear_203 : decode b_Mo_hear 203 = .ok (.ireturn, 1) := by decide +kernel
theorem d_Mo_choose_0 : decode b_Mo_choose 0 = .ok (.aload_n 0, 1) := by decide +kernel
theorem d_Mo_choose_1 : decode b_Mo_choose 1 = .ok (.iload_n 1, 1) := by decide +kernel
theorem d_Mo_choose_2 : decode b_Mo_choose 2 = .ok (.iconst 0, 1) := by decide +kernel
theorem d_Mo_choose_3 : decode b_Mo_choose 3 = .ok (.iconst 3, 1) := by decide +kernel
theorem d_Mo_choose_4 : decode b_Mo_choose 4 = .ok (.invokestatic 60, 3) := by decide +kernel
theorem d_Mo_choose_7 : decode b_Mo_choose 7 = .ok (.ifCond .eq 18, 3) := by decide +kernel
theorem d_Mo_choose_10 : decode b_Mo_choose 10 = .ok (.iload_n 2, 1) := by decide +kernel
theorem d_Mo_choose_11 : decode b_Mo_choose 11 = .ok (.iconst 0, 1) := by decide +kernel
theorem d_Mo_choose_12 : decode b_Mo_choose 12 = .ok (.sipush 4095, 3) := by decide +kernel
theorem d_Mo_choose_15 : decode b_Mo_choose 15 = .ok (.invokestatic 60, 3) := by decide +kernel
theorem d_Mo_choose_18 : decode b_Mo_choose 18 = .ok (.ifCond .eq 7, 3) := by decide +kernel
theorem d_Mo_choose_21 : decode b_Mo_choose 21 = .ok (.iconst 1, 1) := by decide +kernel
theorem d_Mo_choose_22 : decode b_Mo_choose 22 = .ok (.goto 4, 3) := by decide +kernel
theorem d_Mo_choose_25 : decode b_Mo_choose 25 = .ok (.iconst 0, 1) := by decide +kernel
theorem d_Mo_choose_26 : decode b_Mo_choose 26 = .ok (.invokevirtual 64, 3) := by decide +kernel
theorem d_Mo_choose_29 : decode b_Mo_choose 29 = .ok (.ifCond .eq 5, 3) := by decide +kernel
theorem d_Mo_choose_32 : decode b_Mo_choose 32 = .ok (.iconst 0, 1) := by decide +kernel
theorem d_Mo_choose_33 : decode b_Mo_choose 33 = .ok (.ireturn, 1) := by decide +kernel
theorem d_Mo_choose_34 : decode b_Mo_choose 34 = .ok (.aload_n 0, 1) := by decide +kernel
theorem d_Mo_choose_35 : decode b_Mo_choose 35 = .ok (.getfield 25, 3) := by decide +kernel
theorem d_Mo_choose_38 : decode b_Mo_choose 38 = .ok (.iload_n 1, 1) := by decide +kernel
theorem d_Mo_choose_39 : decode b_Mo_choose 39 = .ok (.baload, 1) := by decide +kernel
theorem d_Mo_choose_40 : decode b_Mo_choose 40 = .ok (.ifCond .ne 9, 3) := by decide +kernel
theorem d_Mo_choose_43 : decode b_Mo_choose 43 = .ok (.aload_n 0, 1) := by decide +kernel
theorem d_Mo_choose_44 : decode b_Mo_choose 44 = .ok (.iconst 2, 1) := by decide +kernel
theorem d_Mo_choose_45 : decode b_Mo_choose 45 = .ok (.invokevirtual 71, 3) := by decide +kernel
theorem d_Mo_choose_48 : decode b_Mo_choose 48 = .ok (.ireturn, 1) := by decide +kernel
theorem d_Mo_choose_49 : decode b_Mo_choose 49 = .ok (.iconst 0, 1) := by decide +kernel
theorem d_Mo_choose_50 : decode b_Mo_choose 50 = .ok (.istore_n 3, 1) := by decide +kernel
theorem d_Mo_choose_51 : decode b_Mo_choose 51 = .ok (.iload_n 3, 1) := by decide +kernel
theorem d_Mo_choose_52 : decode b_Mo_choose 52 = .ok (.bipush 12, 2) := by decide +kernel
theorem d_Mo_choose_54 : decode b_Mo_choose 54 = .ok (.if_icmp .ge 38, 3) := by decide +kernel
theorem d_Mo_choose_57 : decode b_Mo_choose 57 = .ok (.iload_n 2, 1) := by decide +kernel
theorem d_Mo_choose_58 : decode b_Mo_choose 58 = .ok (.iload_n 3, 1) := by decide +kernel
theorem d_Mo_choose_59 : decode b_Mo_choose 59 = .ok (.ishr, 1) := by decide +kernel
theorem d_Mo_choose_60 : decode b_Mo_choose 60 = .ok (.iconst 1, 1) := by decide +kernel
theorem d_Mo_choose_61 : decode b_Mo_choose 61 = .ok (.iand, 1) := by decide +kernel
theorem d_Mo_choose_62 : decode b_Mo_choose 62 = .ok (.ifCond .eq 24, 3) := by decide +kernel
theorem d_Mo_choose_65 : decode b_Mo_choose 65 = .ok (.aload_n 0, 1) := by decide +kernel
theorem d_Mo_choose_66 : decode b_Mo_choose 66 = .ok (.getfield 38, 3) := by decide +kernel
theorem d_Mo_choose_69 : decode b_Mo_choose 69 = .ok (.iload_n 3, 1) := by decide +kernel
theorem d_Mo_choose_70 : decode b_Mo_choose 70 = .ok (.iaload, 1) := by decide +kernel
theorem d_Mo_choose_71 : decode b_Mo_choose 71 = .ok (.iload_n 1, 1) := by decide +kernel
theorem d_Mo_choose_72 : decode b_Mo_choose 72 = .ok (.if_icmp .ne 14, 3) := by decide +kernel
theorem d_Mo_choose_75 : decode b_Mo_choose 75 = .ok (.aload_n 0, 1) := by decide +kernel
theorem d_Mo_choose_76 : decode b_Mo_choose 76 = .ok (.getfield 44, 3) := by decide +kernel
theorem d_Mo_choose_79 : decode b_Mo_choose 79 = .ok (.iload_n 3, 1) := by decide +kernel
theorem d_Mo_choose_80 : decode b_Mo_choose 80 = .ok (.iaload, 1) := by decide +kernel
theorem d_Mo_choose_81 : decode b_Mo_choose 81 = .ok (.ifCond .le 5, 3) := by decide +kernel
theorem d_Mo_choose_84 : decode b_Mo_choose 84 = .ok (.iload_n 3, 1) := by decide +kernel
theorem d_Mo_choose_85 : decode b_Mo_choose 85 = .ok (.ireturn, 1) := by decide +kernel
theorem d_Mo_choose_86 : decode b_Mo_choose 86 = .ok (.iinc 3 1, 3) := by decide +kernel
theorem d_Mo_choose_89 : decode b_Mo_choose 89 = .ok (.goto (-38), 3) := by decide +kernel
theorem d_Mo_choose_92 : decode b_Mo_choose 92 = .ok (.aload_n 0, 1) := by decide +kernel
theorem d_Mo_choose_93 : decode b_Mo_choose 93 = .ok (.iconst 3, 1) := by decide +kernel
theorem d_Mo_choose_94 : decode b_Mo_choose 94 = .ok (.invokevirtual 71, 3) := by decide +kernel
theorem d_Mo_choose_97 : decode b_Mo_choose 97 = .ok (.ireturn, 1) := by decide +kernel
theorem d_Mo_close_0 : decode b_Mo_close 0 = .ok (.aload_n 0, 1) := by decide +kernel
theorem d_Mo_close_1 : decode b_Mo_close 1 = .ok (.iload_n 1, 1) := by decide +kernel
theorem d_Mo_close_2 : decode b_Mo_close 2 = .ok (.iload_n 2, 1) := by decide +kernel
theorem d_Mo_close_3 : decode b_Mo_close 3 = .ok (.invokevirtual 114, 3) := by decide +kernel
theorem d_Mo_close_6 : decode b_Mo_close 6 = .ok (.ifCond .eq 5, 3) := by decide +kernel
theorem d_Mo_close_9 : decode b_Mo_close 9 = .ok (.iconst 0, 1) := by decide +kernel
theorem d_Mo_close_10 : decode b_Mo_close 10 = .ok (.ireturn, 1) := by decide +kernel
theorem d_Mo_close_11 : decode b_Mo_close 11 = .ok (.aload_n 0, 1) := by decide +kernel
theorem d_Mo_close_12 : decode b_Mo_close 12 = .ok (.iconst 0, 1) := by decide +kernel
theorem d_Mo_close_13 : decode b_Mo_close 13 = .ok (.putfield 85, 3) := by decide +kernel
theorem d_Mo_close_16 : decode b_Mo_close 16 = .ok (.aload_n 0, 1) := by decide +kernel
theorem d_Mo_close_17 : decode b_Mo_close 17 = .ok (.iload_n 2, 1) := by decide +kernel
theorem d_Mo_close_18 : decode b_Mo_close 18 = .ok (.invokevirtual 98, 3) := by decide +kernel
theorem d_Mo_close_21 : decode b_Mo_close 21 = .ok (.aload_n 0, 1) := by decide +kernel
theorem d_Mo_close_22 : decode b_Mo_close 22 = .ok (.invokevirtual 104, 3) := by decide +kernel
theorem d_Mo_close_25 : decode b_Mo_close 25 = .ok (.aload_n 0, 1) := by decide +kernel
theorem d_Mo_close_26 : decode b_Mo_close 26 = .ok (.getfield 85, 3) := by decide +kernel
theorem d_Mo_close_29 : decode b_Mo_close 29 = .ok (.ireturn, 1) := by decide +kernel
theorem d_Mo_ofBlock_0 : decode b_Mo_ofBlock 0 = .ok (.aload_n 0, 1) := by decide +kernel
theorem d_Mo_ofBlock_1 : decode b_Mo_ofBlock 1 = .ok (.iload_n 1, 1) := by decide +kernel
theorem d_Mo_ofBlock_2 : decode b_Mo_ofBlock 2 = .ok (.iconst 0, 1) := by decide +kernel
theorem d_Mo_ofBlock_3 : decode b_Mo_ofBlock 3 = .ok (.bipush 11, 2) := by decide +kernel
theorem d_Mo_ofBlock_5 : decode b_Mo_ofBlock 5 = .ok (.invokestatic 60, 3) := by decide +kernel
theorem d_Mo_ofBlock_8 : decode b_Mo_ofBlock 8 = .ok (.ifCond .eq 16, 3) := by decide +kernel
theorem d_Mo_ofBlock_11 : decode b_Mo_ofBlock 11 = .ok (.iload_n 2, 1) := by decide +kernel
theorem d_Mo_ofBlock_12 : decode b_Mo_ofBlock 12 = .ok (.iconst 0, 1) := by decide +kernel
theorem d_Mo_ofBlock_13 : decode b_Mo_ofBlock 13 = .ok (.iconst 1, 1) := by decide +kernel
theorem d_Mo_ofBlock_14 : decode b_Mo_ofBlock 14 = .ok (.invokestatic 60, 3) := by decide +kernel
theorem d_Mo_ofBlock_17 : decode b_Mo_ofBlock 17 = .ok (.ifCond .eq 7, 3) := by decide +kernel
theorem d_Mo_ofBlock_20 : decode b_Mo_ofBlock 20 = .ok (.iconst 1, 1) := by decide +kernel
theorem d_Mo_ofBlock_21 : decode b_Mo_ofBlock 21 = .ok (.goto 4, 3) := by decide +kernel
theorem d_Mo_ofBlock_24 : decode b_Mo_ofBlock 24 = .ok (.iconst 0, 1) := by decide +kernel
theorem d_Mo_ofBlock_25 : decode b_Mo_ofBlock 25 = .ok (.invokevirtual 64, 3) := by decide +kernel
theorem d_Mo_ofBlock_28 : decode b_Mo_ofBlock 28 = .ok (.ifCond .eq 5, 3) := by decide +kernel
theorem d_Mo_ofBlock_31 : decode b_Mo_ofBlock 31 = .ok (.iconst 0, 1) := by decide +kernel
theorem d_Mo_ofBlock_32 : decode b_Mo_ofBlock 32 = .ok (.ireturn, 1) := by decide +kernel
theorem d_Mo_ofBlock_33 : decode b_Mo_ofBlock 33 = .ok (.iload_n 2, 1) := by decide +kernel
theorem d_Mo_ofBlock_34 : decode b_Mo_ofBlock 34 = .ok (.ifCond .ne 12, 3) := by decide +kernel
theorem d_Mo_ofBlock_37 : decode b_Mo_ofBlock 37 = .ok (.aload_n 0, 1) := by decide +kernel
theorem d_Mo_ofBlock_38 : decode b_Mo_ofBlock 38 = .ok (.getfield 29, 3) := by decide +kernel
theorem d_Mo_ofBlock_41 : decode b_Mo_ofBlock 41 = .ok (.iload_n 1, 1) := by decide +kernel
theorem d_Mo_ofBlock_42 : decode b_Mo_ofBlock 42 = .ok (.iaload, 1) := by decide +kernel
theorem d_Mo_ofBlock_43 : decode b_Mo_ofBlock 43 = .ok (.goto 9, 3) := by decide +kernel
theorem d_Mo_ofBlock_46 : decode b_Mo_ofBlock 46 = .ok (.aload_n 0, 1) := by decide +kernel
theorem d_Mo_ofBlock_47 : decode b_Mo_ofBlock 47 = .ok (.getfield 32, 3) := by decide +kernel
theorem d_Mo_ofBlock_50 : decode b_Mo_ofBlock 50 = .ok (.iload_n 1, 1) := by decide +kernel
theorem d_Mo_ofBlock_51 : decode b_Mo_ofBlock 51 = .ok (.iaload, 1) := by decide +kernel
theorem d_Mo_ofBlock_52 : decode b_Mo_ofBlock 52 = .ok (.ireturn, 1) := by decide +kernel
theorem d_Mo_ofEnd_0 : decode b_Mo_ofEnd 0 = .ok (.aload_n 0, 1) := by decide +kernel
theorem d_Mo_ofEnd_1 : decode b_Mo_ofEnd 1 = .ok (.iload_n 1, 1) := by decide +kernel
theorem d_Mo_ofEnd_2 : decode b_Mo_ofEnd 2 = .ok (.iconst 0, 1) := by decide +kernel
theorem d_Mo_ofEnd_3 : decode b_Mo_ofEnd 3 = .ok (.bipush 11, 2) := by decide +kernel
theorem d_Mo_ofEnd_5 : decode b_Mo_ofEnd 5 = .ok (.invokestatic 60, 3) := by decide +kernel
theorem d_Mo_ofEnd_8 : decode b_Mo_ofEnd 8 = .ok (.ifCond .eq 16, 3) := by decide +kernel
theorem d_Mo_ofEnd_11 : decode b_Mo_ofEnd 11 = .ok (.iload_n 2, 1) := by decide +kernel
theorem d_Mo_ofEnd_12 : decode b_Mo_ofEnd 12 = .ok (.iconst 0, 1) := by decide +kernel
theorem d_Mo_ofEnd_13 : decode b_Mo_ofEnd 13 = .ok (.iconst 2, 1) := by decide +kernel
theorem d_Mo_ofEnd_14 : decode b_Mo_ofEnd 14 = .ok (.invokestatic 60, 3) := by decide +kernel
theorem d_Mo_ofEnd_17 : decode b_Mo_ofEnd 17 = .ok (.ifCond .eq 7, 3) := by decide +kernel
theorem d_Mo_ofEnd_20 : decode b_Mo_ofEnd 20 = .ok (.iconst 1, 1) := by decide +kernel
theorem d_Mo_ofEnd_21 : decode b_Mo_ofEnd 21 = .ok (.goto 4, 3) := by decide +kernel
theorem d_Mo_ofEnd_24 : decode b_Mo_ofEnd 24 = .ok (.iconst 0, 1) := by decide +kernel
theorem d_Mo_ofEnd_25 : decode b_Mo_ofEnd 25 = .ok (.invokevirtual 64, 3) := by decide +kernel
theorem d_Mo_ofEnd_28 : decode b_Mo_ofEnd 28 = .ok (.ifCond .eq 5, 3) := by decide +kernel
theorem d_Mo_ofEnd_31 : decode b_Mo_ofEnd 31 = .ok (.iconst 0, 1) := by decide +kernel
theorem d_Mo_ofEnd_32 : decode b_Mo_ofEnd 32 = .ok (.ireturn, 1) := by decide +kernel
theorem d_Mo_ofEnd_33 : decode b_Mo_ofEnd 33 = .ok (.iload_n 2, 1) := by decide +kernel
theorem d_Mo_ofEnd_34 : decode b_Mo_ofEnd 34 = .ok (.ifCond .ne 12, 3) := by decide +kernel
theorem d_Mo_ofEnd_37 : decode b_Mo_ofEnd 37 = .ok (.aload_n 0, 1) := by decide +kernel
theorem d_Mo_ofEnd_38 : decode b_Mo_ofEnd 38 = .ok (.getfield 38, 3) := by decide +kernel
theorem d_Mo_ofEnd_41 : decode b_Mo_ofEnd 41 = .ok (.iload_n 1, 1) := by decide +kernel
theorem d_Mo_ofEnd_42 : decode b_Mo_ofEnd 42 = .ok (.iaload, 1) := by decide +kernel
theorem d_Mo_ofEnd_43 : decode b_Mo_ofEnd 43 = .ok (.goto 23, 3) := by decide +kernel
theorem d_Mo_ofEnd_46 : decode b_Mo_ofEnd 46 = .ok (.iload_n 2, 1) := by decide +kernel
theorem d_Mo_ofEnd_47 : decode b_Mo_ofEnd 47 = .ok (.iconst 1, 1) := by decide +kernel
theorem d_Mo_ofEnd_48 : decode b_Mo_ofEnd 48 = .ok (.if_icmp .ne 12, 3) := by decide +kernel
theorem d_Mo_ofEnd_51 : decode b_Mo_ofEnd 51 = .ok (.aload_n 0, 1) := by decide +kernel
theorem d_Mo_ofEnd_52 : decode b_Mo_ofEnd 52 = .ok (.getfield 41, 3) := by decide +kernel
theorem d_Mo_ofEnd_55 : decode b_Mo_ofEnd 55 = .ok (.iload_n 1, 1) := by decide +kernel
theorem d_Mo_ofEnd_56 : decode b_Mo_ofEnd 56 = .ok (.iaload, 1) := by decide +kernel
theorem d_Mo_ofEnd_57 : decode b_Mo_ofEnd 57 = .ok (.goto 9, 3) := by decide +kernel
theorem d_Mo_ofEnd_60 : decode b_Mo_ofEnd 60 = .ok (.aload_n 0, 1) := by decide +kernel
theorem d_Mo_ofEnd_61 : decode b_Mo_ofEnd 61 = .ok (.getfield 44, 3) := by decide +kernel
theorem d_Mo_ofEnd_64 : decode b_Mo_ofEnd 64 = .ok (.iload_n 1, 1) := by decide +kernel
theorem d_Mo_ofEnd_65 : decode b_Mo_ofEnd 65 = .ok (.iaload, 1) := by decide +kernel
theorem d_Mo_ofEnd_66 : decode b_Mo_ofEnd 66 = .ok (.ireturn, 1) := by decide +kernel
theorem d_Mo_count_0 : decode b_Mo_count 0 = .ok (.aload_n 0, 1) := by decide +kernel
theorem d_Mo_count_1 : decode b_Mo_count 1 = .ok (.iconst 0, 1) := by decide +kernel
theorem d_Mo_count_2 : decode b_Mo_count 2 = .ok (.putfield 56, 3) := by decide +kernel
theorem d_Mo_count_5 : decode b_Mo_count 5 = .ok (.iconst 0, 1) := by decide +kernel
theorem d_Mo_count_6 : decode b_Mo_count 6 = .ok (.istore_n 2, 1) := by decide +kernel
theorem d_Mo_count_7 : decode b_Mo_count 7 = .ok (.iconst 0, 1) := by decide +kernel
theorem d_Mo_count_8 : decode b_Mo_count 8 = .ok (.istore_n 3, 1) := by decide +kernel
theorem d_Mo_count_9 : decode b_Mo_count 9 = .ok (.iload_n 3, 1) := by decide +kernel
theorem d_Mo_count_10 : decode b_Mo_count 10 = .ok (.bipush 12, 2) := by decide +kernel
theorem d_Mo_count_12 : decode b_Mo_count 12 = .ok (.if_icmp .ge 101, 3) := by decide +kernel
theorem d_Mo_count_15 : decode b_Mo_count 15 = .ok (.iload_n 1, 1) := by decide +kernel
theorem d_Mo_count_16 : decode b_Mo_count 16 = .ok (.ifCond .ne 20, 3) := by decide +kernel
theorem d_Mo_count_19 : decode b_Mo_count 19 = .ok (.iload_n 3, 1) := by decide +kernel
theorem d_Mo_count_20 : decode b_Mo_count 20 = .ok (.iconst 4, 1) := by decide +kernel
theorem d_Mo_count_21 : decode b_Mo_count 21 = .ok (.if_icmp .ge 15, 3) := by decide +kernel
theorem d_Mo_count_24 : decode b_Mo_count 24 = .ok (.aload_n 0, 1) := by decide +kernel
theorem d_Mo_count_25 : decode b_Mo_count 25 = .ok (.getfield 25, 3) := by decide +kernel
theorem d_Mo_count_28 : decode b_Mo_count 28 = .ok (.iload_n 3, 1) := by decide +kernel
theorem d_Mo_count_29 : decode b_Mo_count 29 = .ok (.baload, 1) := by decide +kernel
theorem d_Mo_count_30 : decode b_Mo_count 30 = .ok (.ifCond .eq 6, 3) := by decide +kernel
theorem d_Mo_count_33 : decode b_Mo_count 33 = .ok (.iinc 2 1, 3) := by decide +kernel
theorem d_Mo_count_36 : decode b_Mo_count 36 = .ok (.iload_n 1, 1) := by decide +kernel
theorem d_Mo_count_37 : decode b_Mo_count 37 = .ok (.iconst 1, 1) := by decide +kernel
theorem d_Mo_count_38 : decode b_Mo_count 38 = .ok (.if_icmp .ne 15, 3) := by decide +kernel
theorem d_Mo_count_41 : decode b_Mo_count 41 = .ok (.aload_n 0, 1) := by decide +kernel
theorem d_Mo_count_42 : decode b_Mo_count 42 = .ok (.getfield 29, 3) := by decide +kernel
theorem d_Mo_count_45 : decode b_Mo_count 45 = .ok (.iload_n 3, 1) := by decide +kernel
theorem d_Mo_count_46 : decode b_Mo_count 46 = .ok (.iaload, 1) := by decide +kernel
theorem d_Mo_count_47 : decode b_Mo_count 47 = .ok (.ifCond .lt 6, 3) := by decide +kernel
theorem d_Mo_count_50 : decode b_Mo_count 50 = .ok (.iinc 2 1, 3) := by decide +kernel
theorem d_Mo_count_53 : decode b_Mo_count 53 = .ok (.iload_n 1, 1) := by decide +kernel
theorem d_Mo_count_54 : decode b_Mo_count 54 = .ok (.iconst 3, 1) := by decide +kernel
theorem d_Mo_count_55 : decode b_Mo_count 55 = .ok (.if_icmp .ne 15, 3) := by decide +kernel
theorem d_Mo_count_58 : decode b_Mo_count 58 = .ok (.aload_n 0, 1) := by decide +kernel
theorem d_Mo_count_59 : decode b_Mo_count 59 = .ok (.getfield 38, 3) := by decide +kernel
theorem d_Mo_count_62 : decode b_Mo_count 62 = .ok (.iload_n 3, 1) := by decide +kernel
theorem d_Mo_count_63 : decode b_Mo_count 63 = .ok (.iaload, 1) := by decide +kernel
theorem d_Mo_count_64 : decode b_Mo_count 64 = .ok (.ifCond .lt 6, 3) := by decide +kernel
theorem d_Mo_count_67 : decode b_Mo_count 67 = .ok (.iinc 2 1, 3) := by decide +kernel
theorem d_Mo_count_70 : decode b_Mo_count 70 = .ok (.iload_n 1, 1) := by decide +kernel
theorem d_Mo_count_71 : decode b_Mo_count 71 = .ok (.iconst 4, 1) := by decide +kernel
theorem d_Mo_count_72 : decode b_Mo_count 72 = .ok (.if_icmp .ne 12, 3) := by decide +kernel
theorem d_Mo_count_75 : decode b_Mo_count 75 = .ok (.iload_n 2, 1) := by decide +kernel
theorem d_Mo_count_76 : decode b_Mo_count 76 = .ok (.aload_n 0, 1) := by decide +kernel
theorem d_Mo_count_77 : decode b_Mo_count 77 = .ok (.getfield 44, 3) := by decide +kernel
theorem d_Mo_count_80 : decode b_Mo_count 80 = .ok (.iload_n 3, 1) := by decide +kernel
theorem d_Mo_count_81 : decode b_Mo_count 81 = .ok (.iaload, 1) := by decide +kernel
theorem d_Mo_count_82 : decode b_Mo_count 82 = .ok (.iadd, 1) := by decide +kernel
theorem d_Mo_count_83 : decode b_Mo_count 83 = .ok (.istore_n 2, 1) := by decide +kernel
theorem d_Mo_count_84 : decode b_Mo_count 84 = .ok (.iload_n 1, 1) := by decide +kernel
theorem d_Mo_count_85 : decode b_Mo_count 85 = .ok (.bipush 9, 2) := by decide +kernel
theorem d_Mo_count_87 : decode b_Mo_count 87 = .ok (.if_icmp .ne 20, 3) := by decide +kernel
theorem d_Mo_count_90 : decode b_Mo_count 90 = .ok (.iload_n 3, 1) := by decide +kernel
theorem d_Mo_count_91 : decode b_Mo_count 91 = .ok (.iconst 4, 1) := by decide +kernel
theorem d_Mo_count_92 : decode b_Mo_count 92 = .ok (.if_icmp .ge 15, 3) := by decide +kernel
theorem d_Mo_count_95 : decode b_Mo_count 95 = .ok (.aload_n 0, 1) := by decide +kernel
theorem d_Mo_count_96 : decode b_Mo_count 96 = .ok (.getfield 16, 3) := by decide +kernel
theorem d_Mo_count_99 : decode b_Mo_count 99 = .ok (.iload_n 3, 1) := by decide +kernel
theorem d_Mo_count_100 : decode b_Mo_count 100 = .ok (.iaload, 1) := by decide +kernel
theorem d_Mo_count_101 : decode b_Mo_count 101 = .ok (.ifCond .le 6, 3) := by decide +kernel
theorem d_Mo_count_104 : decode b_Mo_count 104 = .ok (.iinc 2 1, 3) := by decide +kernel
theorem d_Mo_count_107 : decode b_Mo_count 107 = .ok (.iinc 3 1, 3) := by decide +kernel
theorem d_Mo_count_110 : decode b_Mo_count 110 = .ok (.goto (-101), 3) := by decide +kernel
theorem d_Mo_count_113 : decode b_Mo_count 113 = .ok (.iload_n 1, 1) := by decide +kernel
theorem d_Mo_count_114 : decode b_Mo_count 114 = .ok (.tableswitch 81 0 9 #[54, 54, 56, 54, 54, 61, 66, 71, 76, 54], 54) := by decide +kernel
theorem d_Mo_count_168 : decode b_Mo_count 168 = .ok (.iload_n 2, 1) := by decide +kernel
theorem d_Mo_count_169 : decode b_Mo_count 169 = .ok (.ireturn, 1) := by decide +kernel
theorem d_Mo_count_170 : decode b_Mo_count 170 = .ok (.aload_n 0, 1) := by decide +kernel
theorem d_Mo_count_171 : decode b_Mo_count 171 = .ok (.invokevirtual 107, 3) := by decide +kernel
theorem d_Mo_count_174 : decode b_Mo_count 174 = .ok (.ireturn, 1) := by decide +kernel
theorem d_Mo_count_175 : decode b_Mo_count 175 = .ok (.aload_n 0, 1) := by decide +kernel
theorem d_Mo_count_176 : decode b_Mo_count 176 = .ok (.getfield 120, 3) := by decide +kernel
theorem d_Mo_count_179 : decode b_Mo_count 179 = .ok (.ireturn, 1) := by decide +kernel
theorem d_Mo_count_180 : decode b_Mo_count 180 = .ok (.aload_n 0, 1) := by decide +kernel
theorem d_Mo_count_181 : decode b_Mo_count 181 = .ok (.getfield 123, 3) := by decide +kernel
theorem d_Mo_count_184 : decode b_Mo_count 184 = .ok (.ireturn, 1) := by decide +kernel
theorem d_Mo_count_185 : decode b_Mo_count 185 = .ok (.aload_n 0, 1) := by decide +kernel
theorem d_Mo_count_186 : decode b_Mo_count 186 = .ok (.getfield 91, 3) := by decide +kernel
theorem d_Mo_count_189 : decode b_Mo_count 189 = .ok (.ireturn, 1) := by decide +kernel
theorem d_Mo_count_190 : decode b_Mo_count 190 = .ok (.aload_n 0, 1) := by decide +kernel
theorem d_Mo_count_191 : decode b_Mo_count 191 = .ok (.getfield 101, 3) := by decide +kernel
theorem d_Mo_count_194 : decode b_Mo_count 194 = .ok (.ireturn, 1) := by decide +kernel
theorem d_Mo_count_195 : decode b_Mo_count 195 = .ok (.iconst (-1), 1) := by decide +kernel
theorem d_Mo_count_196 : decode b_Mo_count 196 = .ok (.ireturn, 1) := by decide +kernel
