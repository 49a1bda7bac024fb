theorem d_Sy_init_0 : decode b_Sy_init 0 = .ok (.aload_n 0, 1) := by decide +kernel
theorem d_Sy_init_1 : decode b_Sy_init 1 = .ok (.invokespecial 3, 3) := by decide +kernel
theorem d_Sy_init_4 : decode b_Sy_init 4 = .ok (.aload_n 0, 1) := by decide +kernel
theorem d_Sy_init_5 : decode b_Sy_init 5 = .ok (.bipush 36, 2) := by decide +kernel
theorem d_Sy_init_7 : decode b_Sy_init 7 = .ok (.newarray .char, 2) := by decide +kernel
theorem d_Sy_init_9 : decode b_Sy_init 9 = .ok (.putfield 9, 3) := by decide +kernel
theorem d_Sy_init_12 : decode b_Sy_init 12 = .ok (.aload_n 0, 1) := by decide +kernel
theorem d_Sy_init_13 : decode b_Sy_init 13 = .ok (.new 13, 3) := by decide +kernel
theorem d_Sy_init_16 : decode b_Sy_init 16 = .ok (.dup, 1) := by decide +kernel
theorem d_Sy_init_17 : decode b_Sy_init 17 = .ok (.invokespecial 15, 3) := by decide +kernel
theorem d_Sy_init_20 : decode b_Sy_init 20 = .ok (.putfield 16, 3) := by decide +kernel
theorem d_Sy_init_23 : decode b_Sy_init 23 = .ok (.aload_n 0, 1) := by decide +kernel
theorem d_Sy_init_24 : decode b_Sy_init 24 = .ok (.iconst 4, 1) := by decide +kernel
theorem d_Sy_init_25 : decode b_Sy_init 25 = .ok (.anewarray 13, 3) := by decide +kernel
theorem d_Sy_init_28 : decode b_Sy_init 28 = .ok (.putfield 20, 3) := by decide +kernel
theorem d_Sy_init_31 : decode b_Sy_init 31 = .ok (.iconst 0, 1) := by decide +kernel
theorem d_Sy_init_32 : decode b_Sy_init 32 = .ok (.istore_n 1, 1) := by decide +kernel
theorem d_Sy_init_33 : decode b_Sy_init 33 = .ok (.iload_n 1, 1) := by decide +kernel
theorem d_Sy_init_34 : decode b_Sy_init 34 = .ok (.iconst 4, 1) := by decide +kernel
theorem d_Sy_init_35 : decode b_Sy_init 35 = .ok (.if_icmp .ge 22, 3) := by decide +kernel
theorem d_Sy_init_38 : decode b_Sy_init 38 = .ok (.aload_n 0, 1) := by decide +kernel
theorem d_Sy_init_39 : decode b_Sy_init 39 = .ok (.getfield 20, 3) := by decide +kernel
theorem d_Sy_init_42 : decode b_Sy_init 42 = .ok (.iload_n 1, 1) := by decide +kernel
theorem d_Sy_init_43 : decode b_Sy_init 43 = .ok (.new 13, 3) := by decide +kernel
theorem d_Sy_init_46 : decode b_Sy_init 46 = .ok (.dup, 1) := by decide +kernel
theorem d_Sy_init_47 : decode b_Sy_init 47 = .ok (.invokespecial 15, 3) := by decide +kernel
theorem d_Sy_init_50 : decode b_Sy_init 50 = .ok (.aastore, 1) := by decide +kernel
theorem d_Sy_init_51 : decode b_Sy_init 51 = .ok (.iinc 1 1, 3) := by decide +kernel
theorem d_Sy_init_54 : decode b_Sy_init 54 = .ok (.goto (-21), 3) := by decide +kernel
theorem d_Sy_init_57 : decode b_Sy_init 57 = .ok (.aload_n 0, 1) := by decide +kernel
theorem d_Sy_init_58 : decode b_Sy_init 58 = .ok (.iconst 4, 1) := by decide +kernel
theorem d_Sy_init_59 : decode b_Sy_init 59 = .ok (.newarray .boolean, 2) := by decide +kernel
theorem d_Sy_init_61 : decode b_Sy_init 61 = .ok (.putfield 24, 3) := by decide +kernel
theorem d_Sy_init_64 : decode b_Sy_init 64 = .ok (.aload_n 0, 1) := by decide +kernel
theorem d_Sy_init_65 : decode b_Sy_init 65 = .ok (.getfield 24, 3) := by decide +kernel
theorem d_Sy_init_68 : decode b_Sy_init 68 = .ok (.iconst 0, 1) := by decide +kernel
theorem d_Sy_init_69 : decode b_Sy_init 69 = .ok (.iconst 1, 1) := by decide +kernel
theorem d_Sy_init_70 : decode b_Sy_init 70 = .ok (.bastore, 1) := by decide +kernel
theorem d_Sy_init_71 : decode b_Sy_init 71 = .ok (.aload_n 0, 1) := by decide +kernel
theorem d_Sy_init_72 : decode b_Sy_init 72 = .ok (.bipush 12, 2) := by decide +kernel
theorem d_Sy_init_74 : decode b_Sy_init 74 = .ok (.anewarray 28, 3) := by decide +kernel
theorem d_Sy_init_77 : decode b_Sy_init 77 = .ok (.putfield 30, 3) := by decide +kernel
theorem d_Sy_init_80 : decode b_Sy_init 80 = .ok (.iconst 0, 1) := by decide +kernel
theorem d_Sy_init_81 : decode b_Sy_init 81 = .ok (.istore_n 1, 1) := by decide +kernel
theorem d_Sy_init_82 : decode b_Sy_init 82 = .ok (.iload_n 1, 1) := by decide +kernel
theorem d_Sy_init_83 : decode b_Sy_init 83 = .ok (.bipush 12, 2) := by decide +kernel
theorem d_Sy_init_85 : decode b_Sy_init 85 = .ok (.if_icmp .ge 22, 3) := by decide +kernel
theorem d_Sy_init_88 : decode b_Sy_init 88 = .ok (.aload_n 0, 1) := by decide +kernel
theorem d_Sy_init_89 : decode b_Sy_init 89 = .ok (.getfield 30, 3) := by decide +kernel
theorem d_Sy_init_92 : decode b_Sy_init 92 = .ok (.iload_n 1, 1) := by decide +kernel
theorem d_Sy_init_93 : decode b_Sy_init 93 = .ok (.new 28, 3) := by decide +kernel
theorem d_Sy_init_96 : decode b_Sy_init 96 = .ok (.dup, 1) := by decide +kernel
theorem d_Sy_init_97 : decode b_Sy_init 97 = .ok (.invokespecial 34, 3) := by decide +kernel
theorem d_Sy_init_100 : decode b_Sy_init 100 = .ok (.aastore, 1) := by decide +kernel
theorem d_Sy_init_101 : decode b_Sy_init 101 = .ok (.iinc 1 1, 3) := by decide +kernel
theorem d_Sy_init_104 : decode b_Sy_init 104 = .ok (.goto (-22), 3) := by decide +kernel
theorem d_Sy_init_107 : decode b_Sy_init 107 = .ok (.aload_n 0, 1) := by decide +kernel
theorem d_Sy_init_108 : decode b_Sy_init 108 = .ok (.bipush 6, 2) := by decide +kernel
theorem d_Sy_init_110 : decode b_Sy_init 110 = .ok (.anewarray 13, 3) := by decide +kernel
theorem d_Sy_init_113 : decode b_Sy_init 113 = .ok (.putfield 35, 3) := by decide +kernel
theorem d_Sy_init_116 : decode b_Sy_init 116 = .ok (.iconst 0, 1) := by decide +kernel
theorem d_Sy_init_117 : decode b_Sy_init 117 = .ok (.istore_n 1, 1) := by decide +kernel
theorem d_Sy_init_118 : decode b_Sy_init 118 = .ok (.iload_n 1, 1) := by decide +kernel
theorem d_Sy_init_119 : decode b_Sy_init 119 = .ok (.bipush 6, 2) := by decide +kernel
theorem d_Sy_init_121 : decode b_Sy_init 121 = .ok (.if_icmp .ge 22, 3) := by decide +kernel
theorem d_Sy_init_124 : decode b_Sy_init 124 = .ok (.aload_n 0, 1) := by decide +kernel
theorem d_Sy_init_125 : decode b_Sy_init 125 = .ok (.getfield 35, 3) := by decide +kernel
theorem d_Sy_init_128 : decode b_Sy_init 128 = .ok (.iload_n 1, 1) := by decide +kernel
theorem d_Sy_init_129 : decode b_Sy_init 129 = .ok (.new 13, 3) := by decide +kernel
theorem d_Sy_init_132 : decode b_Sy_init 132 = .ok (.dup, 1) := by decide +kernel
theorem d_Sy_init_133 : decode b_Sy_init 133 = .ok (.invokespecial 15, 3) := by decide +kernel
theorem d_Sy_init_136 : decode b_Sy_init 136 = .ok (.aastore, 1) := by decide +kernel
theorem d_Sy_init_137 : decode b_Sy_init 137 = .ok (.iinc 1 1, 3) := by decide +kernel
theorem d_Sy_init_140 : decode b_Sy_init 140 = .ok (.goto (-22), 3) := by decide +kernel
theorem d_Sy_init_143 : decode b_Sy_init 143 = .ok (.aload_n 0, 1) := by decide +kernel
theorem d_Sy_init_144 : decode b_Sy_init 144 = .ok (.bipush 12, 2) := by decide +kernel
theorem d_Sy_init_146 : decode b_Sy_init 146 = .ok (.anewarray 38, 3) := by decide +kernel
theorem d_Sy_init_149 : decode b_Sy_init 149 = .ok (.putfield 40, 3) := by decide +kernel
theorem d_Sy_init_152 : decode b_Sy_init 152 = .ok (.iconst 0, 1) := by decide +kernel
theorem d_Sy_init_153 : decode b_Sy_init 153 = .ok (.istore_n 1, 1) := by decide +kernel
theorem d_Sy_init_154 : decode b_Sy_init 154 = .ok (.iload_n 1, 1) := by decide +kernel
theorem d_Sy_init_155 : decode b_Sy_init 155 = .ok (.bipush 12, 2) := by decide +kernel
theorem d_Sy_init_157 : decode b_Sy_init 157 = .ok (.if_icmp .ge 22, 3) := by decide +kernel
theorem d_Sy_init_160 : decode b_Sy_init 160 = .ok (.aload_n 0, 1) := by decide +kernel
theorem d_Sy_init_161 : decode b_Sy_init 161 = .ok (.getfield 40, 3) := by decide +kernel
theorem d_Sy_init_164 : decode b_Sy_init 164 = .ok (.iload_n 1, 1) := by decide +kernel
theorem d_Sy_init_165 : decode b_Sy_init 165 = .ok (.new 38, 3) := by decide +kernel
theorem d_Sy_init_168 : decode b_Sy_init 168 = .ok (.dup, 1) := by decide +kernel
theorem d_Sy_init_169 : decode b_Sy_init 169 = .ok (.invokespecial 44, 3) := by decide +kernel
theorem d_Sy_init_172 : decode b_Sy_init 172 = .ok (.aastore, 1) := by decide +kernel
theorem d_Sy_init_173 : decode b_Sy_init 173 = .ok (.iinc 1 1, 3) := by decide +kernel
theorem d_Sy_init_176 : decode b_Sy_init 176 = .ok (.goto (-22), 3) := by decide +kernel
theorem d_Sy_init_179 : decode b_Sy_init 179 = .ok (.return_, 1) := by decide +kernel
theorem d_Sy_type_0 : decode b_Sy_type 0 = .ok (.iconst 0, 1) := by decide +kernel
theorem d_Sy_type_1 : decode b_Sy_type 1 = .ok (.istore_n 3, 1) := by decide +kernel
theorem d_Sy_type_2 : decode b_Sy_type 2 = .ok (.bipush 56, 2) := by decide +kernel
theorem d_Sy_type_4 : decode b_Sy_type 4 = .ok (.istore 4, 2) := by decide +kernel
theorem d_Sy_type_6 : decode b_Sy_type 6 = .ok (.iload 4, 2) := by decide +kernel
theorem d_Sy_type_8 : decode b_Sy_type 8 = .ok (.ifCond .lt 34, 3) := by decide +kernel
theorem d_Sy_type_11 : decode b_Sy_type 11 = .ok (.lload_n 1, 1) := by decide +kernel
theorem d_Sy_type_12 : decode b_Sy_type 12 = .ok (.iload 4, 2) := by decide +kernel
theorem d_Sy_type_14 : decode b_Sy_type 14 = .ok (.invokestatic 45, 3) := by decide +kernel
theorem d_Sy_type_17 : decode b_Sy_type 17 = .ok (.istore 5, 2) := by decide +kernel
theorem d_Sy_type_19 : decode b_Sy_type 19 = .ok (.iload 5, 2) := by decide +kernel
theorem d_Sy_type_21 : decode b_Sy_type 21 = .ok (.ifCond .eq 15, 3) := by decide +kernel
theorem d_Sy_type_24 : decode b_Sy_type 24 = .ok (.iload 5, 2) := by decide +kernel
theorem d_Sy_type_26 : decode b_Sy_type 26 = .ok (.bipush 33, 2) := by decide +kernel
theorem d_Sy_type_28 : decode b_Sy_type 28 = .ok (.bipush 126, 2) := by decide +kernel
theorem d_Sy_type_30 : decode b_Sy_type 30 = .ok (.invokestatic 49, 3) := by decide +kernel
theorem d_Sy_type_33 : decode b_Sy_type 33 = .ok (.iinc 3 1, 3) := by decide +kernel
theorem d_Sy_type_36 : decode b_Sy_type 36 = .ok (.iinc 4 (-8), 3) := by decide +kernel
theorem d_Sy_type_39 : decode b_Sy_type 39 = .ok (.goto (-33), 3) := by decide +kernel
theorem d_Sy_type_42 : decode b_Sy_type 42 = .ok (.aload_n 0, 1) := by decide +kernel
theorem d_Sy_type_43 : decode b_Sy_type 43 = .ok (.getfield 53, 3) := by decide +kernel
theorem d_Sy_type_46 : decode b_Sy_type 46 = .ok (.iload_n 3, 1) := by decide +kernel
theorem d_Sy_type_47 : decode b_Sy_type 47 = .ok (.iadd, 1) := by decide +kernel
theorem d_Sy_type_48 : decode b_Sy_type 48 = .ok (.bipush 36, 2) := by decide +kernel
theorem d_Sy_type_50 : decode b_Sy_type 50 = .ok (.if_icmp .le 13, 3) := by decide +kernel
theorem d_Sy_type_53 : decode b_Sy_type 53 = .ok (.new 57, 3) := by decide +kernel
theorem d_Sy_type_56 : decode b_Sy_type 56 = .ok (.dup, 1) := by decide +kernel
theorem d_Sy_type_57 : decode b_Sy_type 57 = .ok (.ldc 59, 2) := by decide +kernel
theorem d_Sy_type_59 : decode b_Sy_type 59 = .ok (.invokespecial 61, 3) := by decide +kernel
theorem d_Sy_type_62 : decode b_Sy_type 62 = .ok (.athrow, 1) := by decide +kernel
theorem d_Sy_type_63 : decode b_Sy_type 63 = .ok (.bipush 56, 2) := by decide +kernel
theorem d_Sy_type_65 : decode b_Sy_type 65 = .ok (.istore 4, 2) := by decide +kernel
theorem d_Sy_type_67 : decode b_Sy_type 67 = .ok (.iload 4, 2) := by decide +kernel
theorem d_Sy_type_69 : decode b_Sy_type 69 = .ok (.ifCond .lt 44, 3) := by decide +kernel
theorem d_Sy_type_72 : decode b_Sy_type 72 = .ok (.lload_n 1, 1) := by decide +kernel
theorem d_Sy_type_73 : decode b_Sy_type 73 = .ok (.iload 4, 2) := by decide +kernel
theorem d_Sy_type_75 : decode b_Sy_type 75 = .ok (.invokestatic 45, 3) := by decide +kernel
theorem d_Sy_type_78 : decode b_Sy_type 78 = .ok (.istore 5, 2) := by decide +kernel
theorem d_Sy_type_80 : decode b_Sy_type 80 = .ok (.iload 5, 2) := by decide +kernel
theorem d_Sy_type_82 : decode b_Sy_type 82 = .ok (.ifCond .eq 25, 3) := by decide +kernel
theorem d_Sy_type_85 : decode b_Sy_type 85 = .ok (.aload_n 0, 1) := by decide +kernel
theorem d_Sy_type_86 : decode b_Sy_type 86 = .ok (.getfield 9, 3) := by decide +kernel
theorem d_Sy_type_89 : decode b_Sy_type 89 = .ok (.aload_n 0, 1) := by decide +kernel
theorem d_Sy_type_90 : decode b_Sy_type 90 = .ok (.getfield 53, 3) := by decide +kernel
theorem d_Sy_type_93 : decode b_Sy_type 93 = .ok (.iload 5, 2) := by decide +kernel
theorem d_Sy_type_95 : decode b_Sy_type 95 = .ok (.i2c, 1) := by decide +kernel
theorem d_Sy_type_96 : decode b_Sy_type 96 = .ok (.castore, 1) := by decide +kernel
theorem d_Sy_type_97 : decode b_Sy_type 97 = .ok (.aload_n 0, 1) := by decide +kernel
theorem d_Sy_type_98 : decode b_Sy_type 98 = .ok (.dup, 1) := by decide +kernel
theorem d_Sy_type_99 : decode b_Sy_type 99 = .ok (.getfield 53, 3) := by decide +kernel
theorem d_Sy_type_102 : decode b_Sy_type 102 = .ok (.iconst 1, 1) := by decide +kernel
theorem d_Sy_type_103 : decode b_Sy_type 103 = .ok (.iadd, 1) := by decide +kernel
theorem d_Sy_type_104 : decode b_Sy_type 104 = .ok (.putfield 53, 3) := by decide +kernel
theorem d_Sy_type_107 : decode b_Sy_type 107 = .ok (.iinc 4 (-8), 3) := by decide +kernel
theorem d_Sy_type_110 : decode b_Sy_type 110 = .ok (.goto (-43), 3) := by decide +kernel
theorem d_Sy_type_113 : decode b_Sy_type 113 = .ok (.aload_n 0, 1) := by decide +kernel
theorem d_Sy_type_114 : decode b_Sy_type 114 = .ok (.getfield 53, 3) := by decide +kernel
theorem d_Sy_type_117 : decode b_Sy_type 117 = .ok (.ireturn, 1) := by decide +kernel
theorem d_Sy_contract_0 : decode b_Sy_contract 0 = .ok (.iload_n 1, 1) := by decide +kernel
theorem d_Sy_contract_1 : decode b_Sy_contract 1 = .ok (.iconst 4, 1) := by decide +kernel
theorem d_Sy_contract_2 : decode b_Sy_contract 2 = .ok (.invokestatic 64, 3) := by decide +kernel
theorem d_Sy_contract_5 : decode b_Sy_contract 5 = .ok (.aload_n 0, 1) := by decide +kernel
theorem d_Sy_contract_6 : decode b_Sy_contract 6 = .ok (.invokevirtual 68, 3) := by decide +kernel
theorem d_Sy_contract_9 : decode b_Sy_contract 9 = .ok (.istore_n 2, 1) := by decide +kernel
theorem d_Sy_contract_10 : decode b_Sy_contract 10 = .ok (.aload_n 0, 1) := by decide +kernel
theorem d_Sy_contract_11 : decode b_Sy_contract 11 = .ok (.iconst 0, 1) := by decide +kernel
theorem d_Sy_contract_12 : decode b_Sy_contract 12 = .ok (.putfield 53, 3) := by decide +kernel
theorem d_Sy_contract_15 : decode b_Sy_contract 15 = .ok (.iload_n 2, 1) := by decide +kernel
theorem d_Sy_contract_16 : decode b_Sy_contract 16 = .ok (.ifCond .ne 13, 3) := by decide +kernel
theorem d_Sy_contract_19 : decode b_Sy_contract 19 = .ok (.new 72, 3) := by decide +kernel
theorem d_Sy_contract_22 : decode b_Sy_contract 22 = .ok (.dup, 1) := by decide +kernel
theorem d_Sy_contract_23 : decode b_Sy_contract 23 = .ok (.ldc 74, 2) := by decide +kernel
theorem d_Sy_contract_25 : decode b_Sy_contract 25 = .ok (.invokespecial 76, 3) := by decide +kernel
theorem d_Sy_contract_28 : decode b_Sy_contract 28 = .ok (.athrow, 1) := by decide +kernel
theorem d_Sy_contract_29 : decode b_Sy_contract 29 = .ok (.aload_n 0, 1) := by decide +kernel
theorem d_Sy_contract_30 : decode b_Sy_contract 30 = .ok (.getfield 20, 3) := by decide +kernel
theorem d_Sy_contract_33 : decode b_Sy_contract 33 = .ok (.iload_n 1, 1) := by decide +kernel
theorem d_Sy_contract_34 : decode b_Sy_contract 34 = .ok (.aaload, 1) := by decide +kernel
theorem d_Sy_contract_35 : decode b_Sy_contract 35 = .ok (.aload_n 0, 1) := by decide +kernel
theorem d_Sy_contract_36 : decode b_Sy_contract 36 = .ok (.getfield 16, 3) := by decide +kernel
theorem d_Sy_contract_39 : decode b_Sy_contract 39 = .ok (.invokevirtual 77, 3) := by decide +kernel
theorem d_Sy_contract_42 : decode b_Sy_contract 42 = .ok (.aload_n 0, 1) := by decide +kernel
theorem d_Sy_contract_43 : decode b_Sy_contract 43 = .ok (.getfield 16, 3) := by decide +kernel
theorem d_Sy_contract_46 : decode b_Sy_contract 46 = .ok (.getfield 81, 3) := by decide +kernel
theorem d_Sy_contract_49 : decode b_Sy_contract 49 = .ok (.ireturn, 1) := by decide +kernel
theorem d_Sy_start_0 : decode b_Sy_start 0 = .ok (.iconst 0, 1) := by decide +kernel
theorem d_Sy_start_1 : decode b_Sy_start 1 = .ok (.istore_n 1, 1) := by decide +kernel
theorem d_Sy_start_2 : decode b_Sy_start 2 = .ok (.iload_n 1, 1) := by decide +kernel
theorem d_Sy_start_3 : decode b_Sy_start 3 = .ok (.iconst 4, 1) := by decide +kernel
theorem d_Sy_start_4 : decode b_Sy_start 4 = .ok (.if_icmp .ge 27, 3) := by decide +kernel
theorem d_Sy_start_7 : decode b_Sy_start 7 = .ok (.aload_n 0, 1) := by decide +kernel
theorem d_Sy_start_8 : decode b_Sy_start 8 = .ok (.getfield 24, 3) := by decide +kernel
theorem d_Sy_start_11 : decode b_Sy_start 11 = .ok (.iload_n 1, 1) := by decide +kernel
theorem d_Sy_start_12 : decode b_Sy_start 12 = .ok (.baload, 1) := by decide +kernel
theorem d_Sy_start_13 : decode b_Sy_start 13 = .ok (.ifCond .ne 12, 3) := by decide +kernel
theorem d_Sy_start_16 : decode b_Sy_start 16 = .ok (.aload_n 0, 1) := by decide +kernel
theorem d_Sy_start_17 : decode b_Sy_start 17 = .ok (.getfield 24, 3) := by decide +kernel
theorem d_Sy_start_20 : decode b_Sy_start 20 = .ok (.iload_n 1, 1) := by decide +kernel
theorem d_Sy_start_21 : decode b_Sy_start 21 = .ok (.iconst 1, 1) := by decide +kernel
theorem d_Sy_start_22 : decode b_Sy_start 22 = .ok (.bastore, 1) := by decide +kernel
theorem d_Sy_start_23 : decode b_Sy_start 23 = .ok (.iload_n 1, 1) := by decide +kernel
theorem d_Sy_start_24 : decode b_Sy_start 24 = .ok (.ireturn, 1) := by decide +kernel
theorem d_Sy_start_25 : decode b_Sy_start 25 = .ok (.iinc 1 1, 3) := by decide +kernel
theorem d_Sy_start_28 : decode b_Sy_start 28 = .ok (.goto (-26), 3) := by decide +kernel
theorem d_Sy_start_31 : decode b_Sy_start 31 = .ok (.new 57, 3) := by decide +kernel
theorem d_Sy_start_34 : decode b_Sy_start 34 = .ok (.dup, 1) := by decide +kernel
theorem d_Sy_start_35 : decode b_Sy_start 35 = .ok (.ldc 84, 2) := by decide +kernel
theorem d_Sy_start_37 : decode b_Sy_start 37 = .ok (.invokespecial 61, 3) := by decide +kernel
theorem d_Sy_start_40 : decode b_Sy_start 40 = .ok (.athrow, 1) := by decide +kernel
theorem d_Sy_kill_0 : decode b_Sy_kill 0 = .ok (.iload_n 1, 1) := by decide +kernel
theorem d_Sy_kill_1 : decode b_Sy_kill 1 = .ok (.iconst 4, 1) := by decide +kernel
theorem d_Sy_kill_2 : decode b_Sy_kill 2 = .ok (.invokestatic 64, 3) := by decide +kernel
theorem d_Sy_kill_5 : decode b_Sy_kill 5 = .ok (.aload_n 0, 1) := by decide +kernel
theorem d_Sy_kill_6 : decode b_Sy_kill 6 = .ok (.iload_n 1, 1) := by decide +kernel
theorem d_Sy_kill_7 : decode b_Sy_kill 7 = .ok (.invokevirtual 86, 3) := by decide +kernel
theorem d_Sy_kill_10 : decode b_Sy_kill 10 = .ok (.aload_n 0, 1) := by decide +kernel
theorem d_Sy_kill_11 : decode b_Sy_kill 11 = .ok (.getfield 24, 3) := by decide +kernel
theorem d_Sy_kill_14 : decode b_Sy_kill 14 = .ok (.iload_n 1, 1) := by decide +kernel
theorem d_Sy_kill_15 : decode b_Sy_kill 15 = .ok (.iconst 0, 1) := by decide +kernel
theorem d_Sy_kill_16 : decode b_Sy_kill 16 = .ok (.bastore, 1) := by decide +kernel
theorem d_Sy_kill_17 : decode b_Sy_kill 17 = .ok (.aload_n 0, 1) := by decide +kernel
theorem d_Sy_kill_18 : decode b_Sy_kill 18 = .ok (.dup, 1) := by decide +kernel
theorem d_Sy_kill_19 : decode b_Sy_kill 19 = .ok (.getfield 90, 3) := by decide +kernel
theorem d_Sy_kill_22 : decode b_Sy_kill 22 = .ok (.iconst 1, 1) := by decide +kernel
theorem d_Sy_kill_23 : decode b_Sy_kill 23 = .ok (.iadd, 1) := by decide +kernel
theorem d_Sy_kill_24 : decode b_Sy_kill 24 = .ok (.putfield 90, 3) := by decide +kernel
theorem d_Sy_kill_27 : decode b_Sy_kill 27 = .ok (.iconst 0, 1) := by decide +kernel
theorem d_Sy_kill_28 : decode b_Sy_kill 28 = .ok (.istore_n 2, 1) := by decide +kernel
theorem d_Sy_kill_29 : decode b_Sy_kill 29 = .ok (.iconst 0, 1) := by decide +kernel
theorem d_Sy_kill_30 : decode b_Sy_kill 30 = .ok (.istore_n 3, 1) := by decide +kernel
theorem d_Sy_kill_31 : decode b_Sy_kill 31 = .ok (.iload_n 3, 1) := by decide +kernel
theorem d_Sy_kill_32 : decode b_Sy_kill 32 = .ok (.bipush 12, 2) := by decide +kernel
theorem d_Sy_kill_34 : decode b_Sy_kill 34 = .ok (.if_icmp .ge 34, 3) := by decide +kernel
theorem d_Sy_kill_37 : decode b_Sy_kill 37 = .ok (.aload_n 0, 1) := by decide +kernel
theorem d_Sy_kill_38 : decode b_Sy_kill 38 = .ok (.getfield 30, 3) := by decide +kernel
theorem d_Sy_kill_41 : decode b_Sy_kill 41 = .ok (.iload_n 3, 1) := by decide +kernel
theorem d_Sy_kill_42 : decode b_Sy_kill 42 = .ok (.aaload, 1) := by decide +kernel
theorem d_Sy_kill_43 : decode b_Sy_kill 43 = .ok (.getfield 93, 3) := by decide +kernel
theorem d_Sy_kill_46 : decode b_Sy_kill 46 = .ok (.iload_n 1, 1) := by decide +kernel
theorem d_Sy_kill_47 : decode b_Sy_kill 47 = .ok (.if_icmp .ne 15, 3) := by decide +kernel
theorem d_Sy_kill_50 : decode b_Sy_kill 50 = .ok (.aload_n 0, 1) := by decide +kernel
theorem d_Sy_kill_51 : decode b_Sy_kill 51 = .ok (.getfield 30, 3) := by decide +kernel
theorem d_Sy_kill_54 : decode b_Sy_kill 54 = .ok (.iload_n 3, 1) := by decide +kernel
theorem d_Sy_kill_55 : decode b_Sy_kill 55 = .ok (.aaload, 1) := by decide +kernel
theorem d_Sy_kill_56 : decode b_Sy_kill 56 = .ok (.invokevirtual 96, 3) := by decide +kernel
theorem d_Sy_kill_59 : decode b_Sy_kill 59 = .ok (.iinc 2 1, 3) := by decide +kernel
theorem d_Sy_kill_62 : decode b_Sy_kill 62 = .ok (.iinc 3 1, 3) := by decide +kernel
theorem d_Sy_kill_65 : decode b_Sy_kill 65 = .ok (.goto (-34), 3) := by decide +kernel
theorem d_Sy_kill_68 : decode b_Sy_kill 68 = .ok (.iconst 0, 1) := by decide +kernel
theorem d_Sy_kill_69 : decode b_Sy_kill 69 = .ok (.istore_n 3, 1) := by decide +kernel
theorem d_Sy_kill_70 : decode b_Sy_kill 70 = .ok (.iload_n 3, 1) := by decide +kernel
theorem d_Sy_kill_71 : decode b_Sy_kill 71 = .ok (.bipush 12, 2) := by decide +kernel
theorem d_Sy_kill_73 : decode b_Sy_kill 73 = .ok (.if_icmp .ge 31, 3) := by decide +kernel
theorem d_Sy_kill_76 : decode b_Sy_kill 76 = .ok (.aload_n 0, 1) := by decide +kernel
theorem d_Sy_kill_77 : decode b_Sy_kill 77 = .ok (.getfield 40, 3) := by decide +kernel
theorem d_Sy_kill_80 : decode b_Sy_kill 80 = .ok (.iload_n 3, 1) := by decide +kernel
theorem d_Sy_kill_81 : decode b_Sy_kill 81 = .ok (.aaload, 1) := by decide +kernel
theorem d_Sy_kill_82 : decode b_Sy_kill 82 = .ok (.getfield 99, 3) := by decide +kernel
theorem d_Sy_kill_85 : decode b_Sy_kill 85 = .ok (.iload_n 1, 1) := by decide +kernel
theorem d_Sy_kill_86 : decode b_Sy_kill 86 = .ok (.if_icmp .ne 12, 3) := by decide +kernel
theorem d_Sy_kill_89 : decode b_Sy_kill 89 = .ok (.iload_n 2, 1) := by decide +kernel
theorem d_Sy_kill_90 : decode b_Sy_kill 90 = .ok (.aload_n 0, 1) := by decide +kernel
theorem d_Sy_kill_91 : decode b_Sy_kill 91 = .ok (.iload_n 3, 1) := by decide +kernel
theorem d_Sy_kill_92 : decode b_Sy_kill 92 = .ok (.iconst 0, 1) := by decide +kernel
theorem d_Sy_kill_93 : decode b_Sy_kill 93 = .ok (.invokevirtual 100, 3) := by decide +kernel
theorem d_Sy_kill_96 : decode b_Sy_kill 96 = .ok (.iadd, 1) := by decide +kernel
theorem d_Sy_kill_97 : decode b_Sy_kill 97 = .ok (.istore_n 2, 1) := by decide +kernel
theorem d_Sy_kill_98 : decode b_Sy_kill 98 = .ok (.iinc 3 1, 3) := by decide +kernel
theorem d_Sy_kill_101 : decode b_Sy_kill 101 = .ok (.goto (-31), 3) := by decide +kernel
theorem d_Sy_kill_104 : decode b_Sy_kill 104 = .ok (.iload_n 2, 1) := by decide +kernel
theorem d_Sy_kill_105 : decode b_Sy_kill 105 = .ok (.ireturn, 1) := by decide +kernel
theorem d_Sy_block_0 : decode b_Sy_block 0 = .ok (.iload_n 1, 1) := by decide +kernel
theorem d_Sy_block_1 : decode b_Sy_block 1 = .ok (.iconst 4, 1) := by decide +kernel
theorem d_Sy_block_2 : decode b_Sy_block 2 = .ok (.invokestatic 64, 3) := by decide +kernel
theorem d_Sy_block_5 : decode b_Sy_block 5 = .ok (.iload_n 2, 1) := by decide +kernel
theorem d_Sy_block_6 : decode b_Sy_block 6 = .ok (.iconst 1, 1) := by decide +kernel
theorem d_Sy_block_7 : decode b_Sy_block 7 = .ok (.bipush 8, 2) := by decide +kernel
theorem d_Sy_block_9 : decode b_Sy_block 9 = .ok (.invokestatic 49, 3) := by decide +kernel
theorem d_Sy_block_12 : decode b_Sy_block 12 = .ok (.aload_n 0, 1) := by decide +kernel
theorem d_Sy_block_13 : decode b_Sy_block 13 = .ok (.iload_n 1, 1) := by decide +kernel
theorem d_Sy_block_14 : decode b_Sy_block 14 = .ok (.invokevirtual 86, 3) := by decide +kernel
theorem d_Sy_block_17 : decode b_Sy_block 17 = .ok (.aload_n 0, 1) := by decide +kernel
theorem d_Sy_block_18 : decode b_Sy_block 18 = .ok (.invokevirtual 104, 3) := by decide +kernel
theorem d_Sy_block_21 : decode b_Sy_block 21 = .ok (.istore_n 3, 1) := by decide +kernel
theorem d_Sy_block_22 : decode b_Sy_block 22 = .ok (.iload_n 3, 1) := by decide +kernel
theorem d_Sy_block_23 : decode b_Sy_block 23 = .ok (.bipush 12, 2) := by decide +kernel
theorem d_Sy_block_25 : decode b_Sy_block 25 = .ok (.if_icmp .eq 14, 3) := by decide +kernel
theorem d_Sy_block_28 : decode b_Sy_block 28 = .ok (.aload_n 0, 1) := by decide +kernel
theorem d_Sy_block_29 : decode b_Sy_block 29 = .ok (.invokevirtual 108, 3) := by decide +kernel
theorem d_Sy_block_32 : decode b_Sy_block 32 = .ok (.iload_n 2, 1) := by decide +kernel
theorem d_Sy_block_33 : decode b_Sy_block 33 = .ok (.iadd, 1) := by decide +kernel
theorem d_Sy_block_34 : decode b_Sy_block 34 = .ok (.bipush 48, 2) := by decide +kernel
theorem d_Sy_block_36 : decode b_Sy_block 36 = .ok (.if_icmp .le 13, 3) := by decide +kernel
theorem d_Sy_block_39 : decode b_Sy_block 39 = .ok (.new 57, 3) := by decide +kernel
theorem d_Sy_block_42 : decode b_Sy_block 42 = .ok (.dup, 1) := by decide +kernel
theorem d_Sy_block_43 : decode b_Sy_block 43 = .ok (.ldc 111, 2) := by decide +kernel
theorem d_Sy_block_45 : decode b_Sy_block 45 = .ok (.invokespecial 61, 3) := by decide +kernel
theorem d_Sy_block_48 : decode b_Sy_block 48 = .ok (.athrow, 1) := by decide +kernel
theorem d_Sy_block_49 : decode b_Sy_block 49 = .ok (.aload_n 0, 1) := by decide +kernel
theorem d_Sy_block_50 : decode b_Sy_block 50 = .ok (.getfield 30, 3) := by decide +kernel
theorem d_Sy_block_53 : decode b_Sy_block 53 = .ok (.iload_n 3, 1) := by decide +kernel
theorem d_Sy_block_54 : decode b_Sy_block 54 = .ok (.aaload, 1) := by decide +kernel
theorem d_Sy_block_55 : decode b_Sy_block 55 = .ok (.iload_n 1, 1) := by decide +kernel
theorem d_Sy_block_56 : decode b_Sy_block 56 = .ok (.iload_n 2, 1) := by decide +kernel
theorem d_Sy_block_57 : decode b_Sy_block 57 = .ok (.invokevirtual 113, 3) := by decide +kernel
theorem d_Sy_block_60 : decode b_Sy_block 60 = .ok (.iload_n 3, 1) := by decide +kernel
theorem d_Sy_block_61 : decode b_Sy_block 61 = .ok (.ireturn, 1) := by decide +kernel
theorem d_Sy_free_0 : decode b_Sy_free 0 = .ok (.aload_n 0, 1) := by decide +kernel
theorem d_Sy_free_1 : decode b_Sy_free 1 = .ok (.iload_n 1, 1) := by decide +kernel
theorem d_Sy_free_2 : decode b_Sy_free 2 = .ok (.iload_n 2, 1) := by decide +kernel
theorem d_Sy_free_3 : decode b_Sy_free 3 = .ok (.invokevirtual 116, 3) := by decide +kernel
theorem d_Sy_free_6 : decode b_Sy_free 6 = .ok (.aload_n 0, 1) := by decide +kernel
theorem d_Sy_free_7 : decode b_Sy_free 7 = .ok (.getfield 30, 3) := by decide +kernel
theorem d_Sy_free_10 : decode b_Sy_free 10 = .ok (.iload_n 2, 1) := by decide +kernel
theorem d_Sy_free_11 : decode b_Sy_free 11 = .ok (.aaload, 1) := by decide +kernel
theorem d_Sy_free_12 : decode b_Sy_free 12 = .ok (.invokevirtual 96, 3) := by decide +kernel
theorem d_Sy_free_15 : decode b_Sy_free 15 = .ok (.return_, 1) := by decide +kernel
theorem d_Sy_read_0 : decode b_Sy_read 0 = .ok (.aload_n 0, 1) := by decide +kernel
theorem d_Sy_read_1 : decode b_Sy_read 1 = .ok (.iload_n 1, 1) := by decide +kernel
theorem d_Sy_read_2 : decode b_Sy_read 2 = .ok (.iload_n 2, 1) := by decide +kernel
theorem d_Sy_read_3 : decode b_Sy_read 3 = .ok (.invokevirtual 116, 3) := by decide +kernel
theorem d_Sy_read_6 : decode b_Sy_read 6 = .ok (.aload_n 0, 1) := by decide +kernel
theorem d_Sy_read_7 : decode b_Sy_read 7 = .ok (.iload_n 2, 1) := by decide +kernel
theorem d_Sy_read_8 : decode b_Sy_read 8 = .ok (.iload_n 3, 1) := by decide +kernel
theorem d_Sy_read_9 : decode b_Sy_read 9 = .ok (.invokevirtual 119, 3) := by decide +kernel
theorem d_Sy_read_12 : decode b_Sy_read 12 = .ok (.aload_n 0, 1) := by decide +kernel
theorem d_Sy_read_13 : decode b_Sy_read 13 = .ok (.getfield 30, 3) := by decide +kernel
theorem d_Sy_read_16 : decode b_Sy_read 16 = .ok (.iload_n 2, 1) := by decide +kernel
theorem d_Sy_read_17 : decode b_Sy_read 17 = .ok (.aaload, 1) := by decide +kernel
theorem d_Sy_read_18 : decode b_Sy_read 18 = .ok (.getfield 122, 3) := by decide +kernel
theorem d_Sy_read_21 : decode b_Sy_read 21 = .ok (.iload_n 3, 1) := by decide +kernel
theorem d_Sy_read_22 : decode b_Sy_read 22 = .ok (.iaload, 1) := by decide +kernel
theorem d_Sy_read_23 : decode b_Sy_read 23 = .ok (.ireturn, 1) := by decide +kernel
theorem d_Sy_write_0 : decode b_Sy_write 0 = .ok (.aload_n 0, 1) := by decide +kernel
theorem d_Sy_write_1 : decode b_Sy_write 1 = .ok (.iload_n 1, 1) := by decide +kernel
theorem d_Sy_write_2 : decode b_Sy_write 2 = .ok (.iload_n 2, 1) := by decide +kernel
theorem d_Sy_write_3 : decode b_Sy_write 3 = .ok (.invokevirtual 116, 3) := by decide +kernel
theorem d_Sy_write_6 : decode b_Sy_write 6 = .ok (.aload_n 0, 1) := by decide +kernel
theorem d_Sy_write_7 : decode b_Sy_write 7 = .ok (.iload_n 2, 1) := by decide +kernel
theorem d_Sy_write_8 : decode b_Sy_write 8 = .ok (.iload_n 3, 1) := by decide +kernel
theorem d_Sy_write_9 : decode b_Sy_write 9 = .ok (.invokevirtual 119, 3) := by decide +kernel
theorem d_Sy_write_12 : decode b_Sy_write 12 = .ok (.aload_n 0, 1) := by decide +kernel
theorem d_Sy_write_13 : decode b_Sy_write 13 = .ok (.getfield 30, 3) := by decide +kernel
theorem d_Sy_write_16 : decode b_Sy_write 16 = .ok (.iload_n 2, 1) := by decide +kernel
theorem d_Sy_write_17 : decode b_Sy_write 17 = .ok (.aaload, 1) := by decide +kernel
theorem d_Sy_write_18 : decode b_Sy_write 18 = .ok (.getfield 122, 3) := by decide +kernel
theorem d_Sy_write_21 : decode b_Sy_write 21 = .ok (.iload_n 3, 1) := by decide +kernel
theorem d_Sy_write_22 : decode b_Sy_write 22 = .ok (.iload 4, 2) := by decide +kernel
theorem d_Sy_write_24 : decode b_Sy_write 24 = .ok (.iastore, 1) := by decide +kernel
theorem d_Sy_write_25 : decode b_Sy_write 25 = .ok (.return_, 1) := by decide +kernel
theorem d_Sy_open_0 : decode b_Sy_open 0 = .ok (.iload_n 1, 1) := by decide +kernel
theorem d_Sy_open_1 : decode b_Sy_open 1 = .ok (.iconst 4, 1) := by decide +kernel
theorem d_Sy_open_2 : decode b_Sy_open 2 = .ok (.invokestatic 64, 3) := by decide +kernel
theorem d_Sy_open_5 : decode b_Sy_open 5 = .ok (.iload_n 2, 1) := by decide +kernel
theorem d_Sy_open_6 : decode b_Sy_open 6 = .ok (.iconst 4, 1) := by decide +kernel
theorem d_Sy_open_7 : decode b_Sy_open 7 = .ok (.invokestatic 64, 3) := by decide +kernel
theorem d_Sy_open_10 : decode b_Sy_open 10 = .ok (.iload_n 3, 1) := by decide +kernel
theorem d_Sy_open_11 : decode b_Sy_open 11 = .ok (.iconst 4, 1) := by decide +kernel
theorem d_Sy_open_12 : decode b_Sy_open 12 = .ok (.invokestatic 64, 3) := by decide +kernel
theorem d_Sy_open_15 : decode b_Sy_open 15 = .ok (.aload_n 0, 1) := by decide +kernel
theorem d_Sy_open_16 : decode b_Sy_open 16 = .ok (.iload_n 1, 1) := by decide +kernel
theorem d_Sy_open_17 : decode b_Sy_open 17 = .ok (.invokevirtual 86, 3) := by decide +kernel
theorem d_Sy_open_20 : decode b_Sy_open 20 = .ok (.aload_n 0, 1) := by decide +kernel
theorem d_Sy_open_21 : decode b_Sy_open 21 = .ok (.iload_n 2, 1) := by decide +kernel
theorem d_Sy_open_22 : decode b_Sy_open 22 = .ok (.invokevirtual 86, 3) := by decide +kernel
theorem d_Sy_open_25 : decode b_Sy_open 25 = .ok (.aload_n 0, 1) := by decide +kernel
theorem d_Sy_open_26 : decode b_Sy_open 26 = .ok (.getfield 20, 3) := by decide +kernel
theorem d_Sy_open_29 : decode b_Sy_open 29 = .ok (.iload_n 3, 1) := by decide +kernel
theorem d_Sy_open_30 : decode b_Sy_open 30 = .ok (.aaload, 1) := by decide +kernel
theorem d_Sy_open_31 : decode b_Sy_open 31 = .ok (.invokevirtual 126, 3) := by decide +kernel
theorem d_Sy_open_34 : decode b_Sy_open 34 = .ok (.ifCond .eq 13, 3) := by decide +kernel
theorem d_Sy_open_37 : decode b_Sy_open 37 = .ok (.new 129, 3) := by decide +kernel
theorem d_Sy_open_40 : decode b_Sy_open 40 = .ok (.dup, 1) := by decide +kernel
theorem d_Sy_open_41 : decode b_Sy_open 41 = .ok (.ldc 131, 2) := by decide +kernel
theorem d_Sy_open_43 : decode b_Sy_open 43 = .ok (.invokespecial 133, 3) := by decide +kernel
theorem d_Sy_open_46 : decode b_Sy_open 46 = .ok (.athrow, 1) := by decide +kernel
theorem d_Sy_open_47 : decode b_Sy_open 47 = .ok (.aload_n 0, 1) := by decide +kernel
theorem d_Sy_open_48 : decode b_Sy_open 48 = .ok (.invokevirtual 134, 3) := by decide +kernel
theorem d_Sy_open_51 : decode b_Sy_open 51 = .ok (.istore 4, 2) := by decide +kernel
theorem d_Sy_open_53 : decode b_Sy_open 53 = .ok (.iload 4, 2) := by decide +kernel
theorem d_Sy_open_55 : decode b_Sy_open 55 = .ok (.bipush 6, 2) := by decide +kernel
theorem d_Sy_open_57 : decode b_Sy_open 57 = .ok (.if_icmp .ne 13, 3) := by decide +kernel
theorem d_Sy_open_60 : decode b_Sy_open 60 = .ok (.new 57, 3) := by decide +kernel
theorem d_Sy_open_63 : decode b_Sy_open 63 = .ok (.dup, 1) := by decide +kernel
theorem d_Sy_open_64 : decode b_Sy_open 64 = .ok (.ldc 137, 2) := by decide +kernel
theorem d_Sy_open_66 : decode b_Sy_open 66 = .ok (.invokespecial 61, 3) := by decide +kernel
theorem d_Sy_open_69 : decode b_Sy_open 69 = .ok (.athrow, 1) := by decide +kernel
theorem d_Sy_open_70 : decode b_Sy_open 70 = .ok (.aload_n 0, 1) := by decide +kernel
theorem d_Sy_open_71 : decode b_Sy_open 71 = .ok (.getfield 35, 3) := by decide +kernel
theorem d_Sy_open_74 : decode b_Sy_open 74 = .ok (.iload 4, 2) := by decide +kernel
theorem d_Sy_open_76 : decode b_Sy_open 76 = .ok (.aaload, 1) := by decide +kernel
theorem d_Sy_open_77 : decode b_Sy_open 77 = .ok (.aload_n 0, 1) := by decide +kernel
theorem d_Sy_open_78 : decode b_Sy_open 78 = .ok (.getfield 20, 3) := by decide +kernel
theorem d_Sy_open_81 : decode b_Sy_open 81 = .ok (.iload_n 3, 1) := by decide +kernel
theorem d_Sy_open_82 : decode b_Sy_open 82 = .ok (.aaload, 1) := by decide +kernel
theorem d_Sy_open_83 : decode b_Sy_open 83 = .ok (.invokevirtual 77, 3) := by decide +kernel
theorem d_Sy_open_86 : decode b_Sy_open 86 = .ok (.aload_n 0, 1) := by decide +kernel
theorem d_Sy_open_87 : decode b_Sy_open 87 = .ok (.getfield 40, 3) := by decide +kernel
theorem d_Sy_open_90 : decode b_Sy_open 90 = .ok (.iconst 2, 1) := by decide +kernel
theorem d_Sy_open_91 : decode b_Sy_open 91 = .ok (.iload 4, 2) := by decide +kernel
theorem d_Sy_open_93 : decode b_Sy_open 93 = .ok (.imul, 1) := by decide +kernel
theorem d_Sy_open_94 : decode b_Sy_open 94 = .ok (.aaload, 1) := by decide +kernel
theorem d_Sy_open_95 : decode b_Sy_open 95 = .ok (.iload_n 1, 1) := by decide +kernel
theorem d_Sy_open_96 : decode b_Sy_open 96 = .ok (.invokevirtual 139, 3) := by decide +kernel
theorem d_Sy_open_99 : decode b_Sy_open 99 = .ok (.aload_n 0, 1) := by decide +kernel
theorem d_Sy_open_100 : decode b_Sy_open 100 = .ok (.getfield 40, 3) := by decide +kernel
theorem d_Sy_open_103 : decode b_Sy_open 103 = .ok (.iconst 2, 1) := by decide +kernel
theorem d_Sy_open_104 : decode b_Sy_open 104 = .ok (.iload 4, 2) := by decide +kernel
theorem d_Sy_open_106 : decode b_Sy_open 106 = .ok (.imul, 1) := by decide +kernel
theorem d_Sy_open_107 : decode b_Sy_open 107 = .ok (.iconst 1, 1) := by decide +kernel
theorem d_Sy_open_108 : decode b_Sy_open 108 = .ok (.iadd, 1) := by decide +kernel
theorem d_Sy_open_109 : decode b_Sy_open 109 = .ok (.aaload, 1) := by decide +kernel
theorem d_Sy_open_110 : decode b_Sy_open 110 = .ok (.iload_n 2, 1) := by decide +kernel
theorem d_Sy_open_111 : decode b_Sy_open 111 = .ok (.invokevirtual 139, 3) := by decide +kernel
theorem d_Sy_open_114 : decode b_Sy_open 114 = .ok (.iload 4, 2) := by decide +kernel
theorem d_Sy_open_116 : decode b_Sy_open 116 = .ok (.ireturn, 1) := by decide +kernel
theorem d_Sy_say_0 : decode b_Sy_say 0 = .ok (.iload_n 3, 1) := by decide +kernel
theorem d_Sy_say_1 : decode b_Sy_say 1 = .ok (.ldc 142, 2) := by decide +kernel
theorem d_Sy_say_3 : decode b_Sy_say 3 = .ok (.invokevirtual 144, 3) := by decide +kernel
theorem d_Sy_say_6 : decode b_Sy_say 6 = .ok (.invokestatic 64, 3) := by decide +kernel
theorem d_Sy_say_9 : decode b_Sy_say 9 = .ok (.aload_n 0, 1) := by decide +kernel
theorem d_Sy_say_10 : decode b_Sy_say 10 = .ok (.iload_n 1, 1) := by decide +kernel
theorem d_Sy_say_11 : decode b_Sy_say 11 = .ok (.iload_n 2, 1) := by decide +kernel
theorem d_Sy_say_12 : decode b_Sy_say 12 = .ok (.invokevirtual 149, 3) := by decide +kernel
theorem d_Sy_say_15 : decode b_Sy_say 15 = .ok (.aload_n 0, 1) := by decide +kernel
theorem d_Sy_say_16 : decode b_Sy_say 16 = .ok (.getfield 40, 3) := by decide +kernel
theorem d_Sy_say_19 : decode b_Sy_say 19 = .ok (.iload_n 2, 1) := by decide +kernel
theorem d_Sy_say_20 : decode b_Sy_say 20 = .ok (.aaload, 1) := by decide +kernel
theorem d_Sy_say_21 : decode b_Sy_say 21 = .ok (.astore 5, 2) := by decide +kernel
theorem d_Sy_say_23 : decode b_Sy_say 23 = .ok (.aload_n 0, 1) := by decide +kernel
theorem d_Sy_say_24 : decode b_Sy_say 24 = .ok (.getfield 35, 3) := by decide +kernel
theorem d_Sy_say_27 : decode b_Sy_say 27 = .ok (.iload_n 2, 1) := by decide +kernel
theorem d_Sy_say_28 : decode b_Sy_say 28 = .ok (.iconst 2, 1) := by decide +kernel
theorem d_Sy_say_29 : decode b_Sy_say 29 = .ok (.idiv, 1) := by decide +kernel
theorem d_Sy_say_30 : decode b_Sy_say 30 = .ok (.aaload, 1) := by decide +kernel
theorem d_Sy_say_31 : decode b_Sy_say 31 = .ok (.aload 5, 2) := by decide +kernel
theorem d_Sy_say_33 : decode b_Sy_say 33 = .ok (.getfield 152, 3) := by decide +kernel
theorem d_Sy_say_36 : decode b_Sy_say 36 = .ok (.iload_n 3, 1) := by decide +kernel
theorem d_Sy_say_37 : decode b_Sy_say 37 = .ok (.iload_n 2, 1) := by decide +kernel
theorem d_Sy_say_38 : decode b_Sy_say 38 = .ok (.invokestatic 155, 3) := by decide +kernel
theorem d_Sy_say_41 : decode b_Sy_say 41 = .ok (.invokevirtual 159, 3) := by decide +kernel
theorem d_Sy_say_44 : decode b_Sy_say 44 = .ok (.istore 6, 2) := by decide +kernel
theorem d_Sy_say_46 : decode b_Sy_say 46 = .ok (.iload 6, 2) := by decide +kernel
theorem d_Sy_say_48 : decode b_Sy_say 48 = .ok (.invokestatic 163, 3) := by decide +kernel
theorem d_Sy_say_51 : decode b_Sy_say 51 = .ok (.aload_n 0, 1) := by decide +kernel
theorem d_Sy_say_52 : decode b_Sy_say 52 = .ok (.iload_n 1, 1) := by decide +kernel
theorem d_Sy_say_53 : decode b_Sy_say 53 = .ok (.iload_n 2, 1) := by decide +kernel
theorem d_Sy_say_54 : decode b_Sy_say 54 = .ok (.iload_n 3, 1) := by decide +kernel
theorem d_Sy_say_55 : decode b_Sy_say 55 = .ok (.iload 4, 2) := by decide +kernel
theorem d_Sy_say_57 : decode b_Sy_say 57 = .ok (.invokevirtual 166, 3) := by decide +kernel
theorem d_Sy_say_60 : decode b_Sy_say 60 = .ok (.aload_n 0, 1) := by decide +kernel
theorem d_Sy_say_61 : decode b_Sy_say 61 = .ok (.getfield 40, 3) := by decide +kernel
theorem d_Sy_say_64 : decode b_Sy_say 64 = .ok (.iload_n 2, 1) := by decide +kernel
theorem d_Sy_say_65 : decode b_Sy_say 65 = .ok (.invokestatic 170, 3) := by decide +kernel
theorem d_Sy_say_68 : decode b_Sy_say 68 = .ok (.aaload, 1) := by decide +kernel
theorem d_Sy_say_69 : decode b_Sy_say 69 = .ok (.astore 7, 2) := by decide +kernel
theorem d_Sy_say_71 : decode b_Sy_say 71 = .ok (.aload 7, 2) := by decide +kernel
theorem d_Sy_say_73 : decode b_Sy_say 73 = .ok (.invokevirtual 173, 3) := by decide +kernel
theorem d_Sy_say_76 : decode b_Sy_say 76 = .ok (.ifCond .ne 13, 3) := by decide +kernel
theorem d_Sy_say_79 : decode b_Sy_say 79 = .ok (.new 129, 3) := by decide +kernel
theorem d_Sy_say_82 : decode b_Sy_say 82 = .ok (.dup, 1) := by decide +kernel
theorem d_Sy_say_83 : decode b_Sy_say 83 = .ok (.ldc 176, 2) := by decide +kernel
theorem d_Sy_say_85 : decode b_Sy_say 85 = .ok (.invokespecial 133, 3) := by decide +kernel
theorem d_Sy_say_88 : decode b_Sy_say 88 = .ok (.athrow, 1) := by decide +kernel
theorem d_Sy_say_89 : decode b_Sy_say 89 = .ok (.aload 7, 2) := by decide +kernel
theorem d_Sy_say_91 : decode b_Sy_say 91 = .ok (.getfield 178, 3) := by decide +kernel
theorem d_Sy_say_94 : decode b_Sy_say 94 = .ok (.iconst 3, 1) := by decide +kernel
theorem d_Sy_say_95 : decode b_Sy_say 95 = .ok (.if_icmp .lt 13, 3) := by decide +kernel
theorem d_Sy_say_98 : decode b_Sy_say 98 = .ok (.new 181, 3) := by decide +kernel
theorem d_Sy_say_101 : decode b_Sy_say 101 = .ok (.dup, 1) := by decide +kernel
theorem d_Sy_say_102 : decode b_Sy_say 102 = .ok (.ldc 183, 2) := by decide +kernel
theorem d_Sy_say_104 : decode b_Sy_say 104 = .ok (.invokespecial 185, 3) := by decide +kernel
theorem d_Sy_say_107 : decode b_Sy_say 107 = .ok (.athrow, 1) := by decide +kernel
theorem d_Sy_say_108 : decode b_Sy_say 108 = .ok (.aload 5, 2) := by decide +kernel
theorem d_Sy_say_110 : decode b_Sy_say 110 = .ok (.iload 6, 2) := by decide +kernel
theorem d_Sy_say_112 : decode b_Sy_say 112 = .ok (.putfield 152, 3) := by decide +kernel
theorem d_Sy_say_115 : decode b_Sy_say 115 = .ok (.aload_n 0, 1) := by decide +kernel
theorem d_Sy_say_116 : decode b_Sy_say 116 = .ok (.iload_n 3, 1) := by decide +kernel
theorem d_Sy_say_117 : decode b_Sy_say 117 = .ok (.iload 4, 2) := by decide +kernel
theorem d_Sy_say_119 : decode b_Sy_say 119 = .ok (.iconst 4, 1) := by decide +kernel
theorem d_Sy_say_120 : decode b_Sy_say 120 = .ok (.invokevirtual 186, 3) := by decide +kernel
theorem d_Sy_say_123 : decode b_Sy_say 123 = .ok (.aload 7, 2) := by decide +kernel
theorem d_Sy_say_125 : decode b_Sy_say 125 = .ok (.iload_n 3, 1) := by decide +kernel
theorem d_Sy_say_126 : decode b_Sy_say 126 = .ok (.iload 4, 2) := by decide +kernel
theorem d_Sy_say_128 : decode b_Sy_say 128 = .ok (.invokevirtual 189, 3) := by decide +kernel
theorem d_Sy_say_131 : decode b_Sy_say 131 = .ok (.aload_n 0, 1) := by decide +kernel
theorem d_Sy_say_132 : decode b_Sy_say 132 = .ok (.dup, 1) := by decide +kernel
theorem d_Sy_say_133 : decode b_Sy_say 133 = .ok (.getfield 192, 3) := by decide +kernel
theorem d_Sy_say_136 : decode b_Sy_say 136 = .ok (.iconst 1, 1) := by decide +kernel
theorem d_Sy_say_137 : decode b_Sy_say 137 = .ok (.iadd, 1) := by decide +kernel
theorem d_Sy_say_138 : decode b_Sy_say 138 = .ok (.putfield 192, 3) := by decide +kernel
theorem d_Sy_say_141 : decode b_Sy_say 141 = .ok (.return_, 1) := by decide +kernel
theorem d_Sy_hear_0 : decode b_Sy_hear 0 = .ok (.aload_n 0, 1) := by decide +kernel
theorem d_Sy_hear_1 : decode b_Sy_hear 1 = .ok (.iload_n 1, 1) := by decide +kernel
theorem d_Sy_hear_2 : decode b_Sy_hear 2 = .ok (.iload_n 2, 1) := by decide +kernel
theorem d_Sy_hear_3 : decode b_Sy_hear 3 = .ok (.invokevirtual 149, 3) := by decide +kernel
theorem d_Sy_hear_6 : decode b_Sy_hear 6 = .ok (.aload_n 0, 1) := by decide +kernel
theorem d_Sy_hear_7 : decode b_Sy_hear 7 = .ok (.getfield 40, 3) := by decide +kernel
theorem d_Sy_hear_10 : decode b_Sy_hear 10 = .ok (.iload_n 2, 1) := by decide +kernel
theorem d_Sy_hear_11 : decode b_Sy_hear 11 = .ok (.aaload, 1) := by decide +kernel
theorem d_Sy_hear_12 : decode b_Sy_hear 12 = .ok (.astore_n 3, 1) := by decide +kernel
theorem d_Sy_hear_13 : decode b_Sy_hear 13 = .ok (.aload_n 3, 1) := by decide +kernel
theorem d_Sy_hear_14 : decode b_Sy_hear 14 = .ok (.getfield 178, 3) := by decide +kernel
theorem d_Sy_hear_17 : decode b_Sy_hear 17 = .ok (.ifCond .ne 13, 3) := by decide +kernel
theorem d_Sy_hear_20 : decode b_Sy_hear 20 = .ok (.new 129, 3) := by decide +kernel
theorem d_Sy_hear_23 : decode b_Sy_hear 23 = .ok (.dup, 1) := by decide +kernel
theorem d_Sy_hear_24 : decode b_Sy_hear 24 = .ok (.ldc 195, 2) := by decide +kernel
theorem d_Sy_hear_26 : decode b_Sy_hear 26 = .ok (.invokespecial 133, 3) := by decide +kernel
theorem d_Sy_hear_29 : decode b_Sy_hear 29 = .ok (.athrow, 1) := by decide +kernel
theorem d_Sy_hear_30 : decode b_Sy_hear 30 = .ok (.aload_n 3, 1) := by decide +kernel
theorem d_Sy_hear_31 : decode b_Sy_hear 31 = .ok (.getfield 197, 3) := by decide +kernel
theorem d_Sy_hear_34 : decode b_Sy_hear 34 = .ok (.iconst 0, 1) := by decide +kernel
theorem d_Sy_hear_35 : decode b_Sy_hear 35 = .ok (.iaload, 1) := by decide +kernel
theorem d_Sy_hear_36 : decode b_Sy_hear 36 = .ok (.istore 4, 2) := by decide +kernel
theorem d_Sy_hear_38 : decode b_Sy_hear 38 = .ok (.aload_n 3, 1) := by decide +kernel
theorem d_Sy_hear_39 : decode b_Sy_hear 39 = .ok (.getfield 200, 3) := by decide +kernel
theorem d_Sy_hear_42 : decode b_Sy_hear 42 = .ok (.iconst 0, 1) := by decide +kernel
theorem d_Sy_hear_43 : decode b_Sy_hear 43 = .ok (.iaload, 1) := by decide +kernel
theorem d_Sy_hear_44 : decode b_Sy_hear 44 = .ok (.istore 5, 2) := by decide +kernel
theorem d_Sy_hear_46 : decode b_Sy_hear 46 = .ok (.aload_n 0, 1) := by decide +kernel
theorem d_Sy_hear_47 : decode b_Sy_hear 47 = .ok (.getfield 35, 3) := by decide +kernel
theorem d_Sy_hear_50 : decode b_Sy_hear 50 = .ok (.iload_n 2, 1) := by decide +kernel
theorem d_Sy_hear_51 : decode b_Sy_hear 51 = .ok (.iconst 2, 1) := by decide +kernel
theorem d_Sy_hear_52 : decode b_Sy_hear 52 = .ok (.idiv, 1) := by decide +kernel
theorem d_Sy_hear_53 : decode b_Sy_hear 53 = .ok (.aaload, 1) := by decide +kernel
theorem d_Sy_hear_54 : decode b_Sy_hear 54 = .ok (.aload_n 3, 1) := by decide +kernel
theorem d_Sy_hear_55 : decode b_Sy_hear 55 = .ok (.getfield 152, 3) := by decide +kernel
theorem d_Sy_hear_58 : decode b_Sy_hear 58 = .ok (.iload 4, 2) := by decide +kernel
theorem d_Sy_hear_60 : decode b_Sy_hear 60 = .ok (.iload_n 2, 1) := by decide +kernel
theorem d_Sy_hear_61 : decode b_Sy_hear 61 = .ok (.invokestatic 170, 3) := by decide +kernel
theorem d_Sy_hear_64 : decode b_Sy_hear 64 = .ok (.invokestatic 155, 3) := by decide +kernel
theorem d_Sy_hear_67 : decode b_Sy_hear 67 = .ok (.invokevirtual 159, 3) := by decide +kernel
theorem d_Sy_hear_70 : decode b_Sy_hear 70 = .ok (.istore 6, 2) := by decide +kernel
theorem d_Sy_hear_72 : decode b_Sy_hear 72 = .ok (.iload 6, 2) := by decide +kernel
theorem d_Sy_hear_74 : decode b_Sy_hear 74 = .ok (.invokestatic 163, 3) := by decide +kernel
theorem d_Sy_hear_77 : decode b_Sy_hear 77 = .ok (.aload_n 3, 1) := by decide +kernel
theorem d_Sy_hear_78 : decode b_Sy_hear 78 = .ok (.iload 6, 2) := by decide +kernel
theorem d_Sy_hear_80 : decode b_Sy_hear 80 = .ok (.putfield 152, 3) := by decide +kernel
theorem d_Sy_hear_83 : decode b_Sy_hear 83 = .ok (.aload_n 3, 1) := by decide +kernel
theorem d_Sy_hear_84 : decode b_Sy_hear 84 = .ok (.invokevirtual 203, 3) := by decide +kernel
theorem d_Sy_hear_87 : decode b_Sy_hear 87 = .ok (.aload_n 0, 1) := by decide +kernel
theorem d_Sy_hear_88 : decode b_Sy_hear 88 = .ok (.iload 4, 2) := by decide +kernel
theorem d_Sy_hear_90 : decode b_Sy_hear 90 = .ok (.iload 5, 2) := by decide +kernel
theorem d_Sy_hear_92 : decode b_Sy_hear 92 = .ok (.iload_n 1, 1) := by decide +kernel
theorem d_Sy_hear_93 : decode b_Sy_hear 93 = .ok (.invokevirtual 186, 3) := by decide +kernel
theorem d_Sy_hear_96 : decode b_Sy_hear 96 = .ok (.aload_n 0, 1) := by decide +kernel
theorem d_Sy_hear_97 : decode b_Sy_hear 97 = .ok (.dup, 1) := by decide +kernel
theorem d_Sy_hear_98 : decode b_Sy_hear 98 = .ok (.getfield 206, 3) := by decide +kernel
theorem d_Sy_hear_101 : decode b_Sy_hear 101 = .ok (.iconst 1, 1) := by decide +kernel
theorem d_Sy_hear_102 : decode b_Sy_hear 102 = .ok (.iadd, 1) := by decide +kernel
theorem d_Sy_hear_103 : decode b_Sy_hear 103 = .ok (.putfield 206, 3) := by decide +kernel
theorem d_Sy_hear_106 : decode b_Sy_hear 106 = .ok (.bipush 16, 2) := by decide +kernel
theorem d_Sy_hear_108 : decode b_Sy_hear 108 = .ok (.iload 4, 2) := by decide +kernel
theorem d_Sy_hear_110 : decode b_Sy_hear 110 = .ok (.imul, 1) := by decide +kernel
theorem d_Sy_hear_111 : decode b_Sy_hear 111 = .ok (.iload 5, 2) := by decide +kernel
theorem d_Sy_hear_113 : decode b_Sy_hear 113 = .ok (.bipush 15, 2) := by decide +kernel
theorem d_Sy_hear_115 : decode b_Sy_hear 115 = .ok (.iand, 1) := by decide +kernel
theorem d_Sy_hear_116 : decode b_Sy_hear 116 = .ok (.iadd, 1) := by decide +kernel
theorem d_Sy_hear_117 : decode b_Sy_hear 117 = .ok (.ireturn, 1) := by decide +kernel
theorem d_Sy_choose_0 : decode b_Sy_choose 0 = .ok (.iload_n 1, 1) := by decide +kernel
theorem d_Sy_choose_1 : decode b_Sy_choose 1 = .ok (.iconst 4, 1) := by decide +kernel
theorem d_Sy_choose_2 : decode b_Sy_choose 2 = .ok (.invokestatic 64, 3) := by decide +kernel
theorem d_Sy_choose_5 : decode b_Sy_choose 5 = .ok (.iload_n 2, 1) := by decide +kernel
theorem d_Sy_choose_6 : decode b_Sy_choose 6 = .ok (.sipush 4096, 3) := by decide +kernel
theorem d_Sy_choose_9 : decode b_Sy_choose 9 = .ok (.invokestatic 64, 3) := by decide +kernel
theorem d_Sy_choose_12 : decode b_Sy_choose 12 = .ok (.aload_n 0, 1) := by decide +kernel
theorem d_Sy_choose_13 : decode b_Sy_choose 13 = .ok (.iload_n 1, 1) := by decide +kernel
theorem d_Sy_choose_14 : decode b_Sy_choose 14 = .ok (.invokevirtual 86, 3) := by decide +kernel
theorem d_Sy_choose_17 : decode b_Sy_choose 17 = .ok (.iconst 0, 1) := by decide +kernel
theorem d_Sy_choose_18 : decode b_Sy_choose 18 = .ok (.istore_n 3, 1) := by decide +kernel
theorem d_Sy_choose_19 : decode b_Sy_choose 19 = .ok (.iload_n 3, 1) := by decide +kernel
theorem d_Sy_choose_20 : decode b_Sy_choose 20 = .ok (.bipush 12, 2) := by decide +kernel
theorem d_Sy_choose_22 : decode b_Sy_choose 22 = .ok (.if_icmp .ge 57, 3) := by decide +kernel
theorem d_Sy_choose_25 : decode b_Sy_choose 25 = .ok (.iload_n 2, 1) := by decide +kernel
theorem d_Sy_choose_26 : decode b_Sy_choose 26 = .ok (.iload_n 3, 1) := by decide +kernel
theorem d_Sy_choose_27 : decode b_Sy_choose 27 = .ok (.ishr, 1) := by decide +kernel
theorem d_Sy_choose_28 : decode b_Sy_choose 28 = .ok (.iconst 1, 1) := by decide +kernel
theorem d_Sy_choose_29 : decode b_Sy_choose 29 = .ok (.iand, 1) := by decide +kernel
theorem d_Sy_choose_30 : decode b_Sy_choose 30 = .ok (.iconst 1, 1) := by decide +kernel
theorem d_Sy_choose_31 : decode b_Sy_choose 31 = .ok (.if_icmp .ne 7, 3) := by decide +kernel
theorem d_Sy_choose_34 : decode b_Sy_choose 34 = .ok (.iconst 1, 1) := by decide +kernel
theorem d_Sy_choose_35 : decode b_Sy_choose 35 = .ok (.goto 4, 3) := by decide +kernel
theorem d_Sy_choose_38 : decode b_Sy_choose 38 = .ok (.iconst 0, 1) := by decide +kernel
theorem d_Sy_choose_39 : decode b_Sy_choose 39 = .ok (.istore 4, 2) := by decide +kernel
theorem d_Sy_choose_41 : decode b_Sy_choose 41 = .ok (.iload 4, 2) := by decide +kernel
theorem d_Sy_choose_43 : decode b_Sy_choose 43 = .ok (.ifCond .eq 30, 3) := by decide +kernel
theorem d_Sy_choose_46 : decode b_Sy_choose 46 = .ok (.aload_n 0, 1) := by decide +kernel
theorem d_Sy_choose_47 : decode b_Sy_choose 47 = .ok (.getfield 40, 3) := by decide +kernel
theorem d_Sy_choose_50 : decode b_Sy_choose 50 = .ok (.iload_n 3, 1) := by decide +kernel
theorem d_Sy_choose_51 : decode b_Sy_choose 51 = .ok (.aaload, 1) := by decide +kernel
theorem d_Sy_choose_52 : decode b_Sy_choose 52 = .ok (.getfield 99, 3) := by decide +kernel
theorem d_Sy_choose_55 : decode b_Sy_choose 55 = .ok (.iload_n 1, 1) := by decide +kernel
theorem d_Sy_choose_56 : decode b_Sy_choose 56 = .ok (.if_icmp .ne 17, 3) := by decide +kernel
theorem d_Sy_choose_59 : decode b_Sy_choose 59 = .ok (.aload_n 0, 1) := by decide +kernel
theorem d_Sy_choose_60 : decode b_Sy_choose 60 = .ok (.getfield 40, 3) := by decide +kernel
theorem d_Sy_choose_63 : decode b_Sy_choose 63 = .ok (.iload_n 3, 1) := by decide +kernel
theorem d_Sy_choose_64 : decode b_Sy_choose 64 = .ok (.aaload, 1) := by decide +kernel
theorem d_Sy_choose_65 : decode b_Sy_choose 65 = .ok (.getfield 178, 3) := by decide +kernel
theorem d_Sy_choose_68 : decode b_Sy_choose 68 = .ok (.ifCond .le 5, 3) := by decide +kernel
theorem d_Sy_choose_71 : decode b_Sy_choose 71 = .ok (.iload_n 3, 1) := by decide +kernel
theorem d_Sy_choose_72 : decode b_Sy_choose 72 = .ok (.ireturn, 1) := by decide +kernel
theorem d_Sy_choose_73 : decode b_Sy_choose 73 = .ok (.iinc 3 1, 3) := by decide +kernel
theorem d_Sy_choose_76 : decode b_Sy_choose 76 = .ok (.goto (-57), 3) := by decide +kernel
theorem d_Sy_choose_79 : decode b_Sy_choose 79 = .ok (.new 129, 3) := by decide +kernel
theorem d_Sy_choose_82 : decode b_Sy_choose 82 = .ok (.dup, 1) := by decide +kernel
theorem d_Sy_choose_83 : decode b_Sy_choose 83 = .ok (.ldc 209, 2) := by decide +kernel
theorem d_Sy_choose_85 : decode b_Sy_choose 85 = .ok (.invokespecial 133, 3) := by decide +kernel
theorem d_Sy_choose_88 : decode b_Sy_choose 88 = .ok (.athrow, 1) := by decide +kernel
theorem d_Sy_close_0 : decode b_Sy_close 0 = .ok (.aload_n 0, 1) := by decide +kernel
theorem d_Sy_close_1 : decode b_Sy_close 1 = .ok (.iload_n 1, 1) := by decide +kernel
theorem d_Sy_close_2 : decode b_Sy_close 2 = .ok (.iload_n 2, 1) := by decide +kernel
theorem d_Sy_close_3 : decode b_Sy_close 3 = .ok (.invokevirtual 149, 3) := by decide +kernel
theorem d_Sy_close_6 : decode b_Sy_close 6 = .ok (.aload_n 0, 1) := by decide +kernel
theorem d_Sy_close_7 : decode b_Sy_close 7 = .ok (.iload_n 2, 1) := by decide +kernel
theorem d_Sy_close_8 : decode b_Sy_close 8 = .ok (.iconst 0, 1) := by decide +kernel
theorem d_Sy_close_9 : decode b_Sy_close 9 = .ok (.invokevirtual 100, 3) := by decide +kernel
theorem d_Sy_close_12 : decode b_Sy_close 12 = .ok (.ireturn, 1) := by decide +kernel
theorem d_Sy_ofBlock_0 : decode b_Sy_ofBlock 0 = .ok (.iload_n 1, 1) := by decide +kernel
theorem d_Sy_ofBlock_1 : decode b_Sy_ofBlock 1 = .ok (.bipush 12, 2) := by decide +kernel
theorem d_Sy_ofBlock_3 : decode b_Sy_ofBlock 3 = .ok (.invokestatic 64, 3) := by decide +kernel
theorem d_Sy_ofBlock_6 : decode b_Sy_ofBlock 6 = .ok (.iload_n 2, 1) := by decide +kernel
theorem d_Sy_ofBlock_7 : decode b_Sy_ofBlock 7 = .ok (.iconst 2, 1) := by decide +kernel
theorem d_Sy_ofBlock_8 : decode b_Sy_ofBlock 8 = .ok (.invokestatic 64, 3) := by decide +kernel
theorem d_Sy_ofBlock_11 : decode b_Sy_ofBlock 11 = .ok (.iload_n 2, 1) := by decide +kernel
theorem d_Sy_ofBlock_12 : decode b_Sy_ofBlock 12 = .ok (.ifCond .ne 15, 3) := by decide +kernel
theorem d_Sy_ofBlock_15 : decode b_Sy_ofBlock 15 = .ok (.aload_n 0, 1) := by decide +kernel
theorem d_Sy_ofBlock_16 : decode b_Sy_ofBlock 16 = .ok (.getfield 30, 3) := by decide +kernel
theorem d_Sy_ofBlock_19 : decode b_Sy_ofBlock 19 = .ok (.iload_n 1, 1) := by decide +kernel
theorem d_Sy_ofBlock_20 : decode b_Sy_ofBlock 20 = .ok (.aaload, 1) := by decide +kernel
theorem d_Sy_ofBlock_21 : decode b_Sy_ofBlock 21 = .ok (.getfield 93, 3) := by decide +kernel
theorem d_Sy_ofBlock_24 : decode b_Sy_ofBlock 24 = .ok (.goto 12, 3) := by decide +kernel
theorem d_Sy_ofBlock_27 : decode b_Sy_ofBlock 27 = .ok (.aload_n 0, 1) := by decide +kernel
theorem d_Sy_ofBlock_28 : decode b_Sy_ofBlock 28 = .ok (.getfield 30, 3) := by decide +kernel
theorem d_Sy_ofBlock_31 : decode b_Sy_ofBlock 31 = .ok (.iload_n 1, 1) := by decide +kernel
theorem d_Sy_ofBlock_32 : decode b_Sy_ofBlock 32 = .ok (.aaload, 1) := by decide +kernel
theorem d_Sy_ofBlock_33 : decode b_Sy_ofBlock 33 = .ok (.getfield 211, 3) := by decide +kernel
theorem d_Sy_ofBlock_36 : decode b_Sy_ofBlock 36 = .ok (.ireturn, 1) := by decide +kernel
theorem d_Sy_ofEnd_0 : decode b_Sy_ofEnd 0 = .ok (.iload_n 1, 1) := by decide +kernel
theorem d_Sy_ofEnd_1 : decode b_Sy_ofEnd 1 = .ok (.bipush 12, 2) := by decide +kernel
theorem d_Sy_ofEnd_3 : decode b_Sy_ofEnd 3 = .ok (.invokestatic 64, 3) := by decide +kernel
theorem d_Sy_ofEnd_6 : decode b_Sy_ofEnd 6 = .ok (.iload_n 2, 1) := by decide +kernel
theorem d_Sy_ofEnd_7 : decode b_Sy_ofEnd 7 = .ok (.iconst 3, 1) := by decide +kernel
theorem d_Sy_ofEnd_8 : decode b_Sy_ofEnd 8 = .ok (.invokestatic 64, 3) := by decide +kernel
theorem d_Sy_ofEnd_11 : decode b_Sy_ofEnd 11 = .ok (.iload_n 2, 1) := by decide +kernel
theorem d_Sy_ofEnd_12 : decode b_Sy_ofEnd 12 = .ok (.ifCond .ne 13, 3) := by decide +kernel
theorem d_Sy_ofEnd_15 : decode b_Sy_ofEnd 15 = .ok (.aload_n 0, 1) := by decide +kernel
theorem d_Sy_ofEnd_16 : decode b_Sy_ofEnd 16 = .ok (.getfield 40, 3) := by decide +kernel
theorem d_Sy_ofEnd_19 : decode b_Sy_ofEnd 19 = .ok (.iload_n 1, 1) := by decide +kernel
theorem d_Sy_ofEnd_20 : decode b_Sy_ofEnd 20 = .ok (.aaload, 1) := by decide +kernel
theorem d_Sy_ofEnd_21 : decode b_Sy_ofEnd 21 = .ok (.getfield 99, 3) := by decide +kernel
theorem d_Sy_ofEnd_24 : decode b_Sy_ofEnd 24 = .ok (.ireturn, 1) := by decide +kernel
theorem d_Sy_ofEnd_25 : decode b_Sy_ofEnd 25 = .ok (.iload_n 2, 1) := by decide +kernel
theorem d_Sy_ofEnd_26 : decode b_Sy_ofEnd 26 = .ok (.iconst 1, 1) := by decide +kernel
theorem d_Sy_ofEnd_27 : decode b_Sy_ofEnd 27 = .ok (.if_icmp .ne 15, 3) := by decide +kernel
theorem d_Sy_ofEnd_30 : decode b_Sy_ofEnd 30 = .ok (.aload_n 0, 1) := by decide +kernel
theorem d_Sy_ofEnd_31 : decode b_Sy_ofEnd 31 = .ok (.getfield 40, 3) := by decide +kernel
theorem d_Sy_ofEnd_34 : decode b_Sy_ofEnd 34 = .ok (.iload_n 1, 1) := by decide +kernel
theorem d_Sy_ofEnd_35 : decode b_Sy_ofEnd 35 = .ok (.aaload, 1) := by decide +kernel
theorem d_Sy_ofEnd_36 : decode b_Sy_ofEnd 36 = .ok (.getfield 152, 3) := by decide +kernel
theorem d_Sy_ofEnd_39 : decode b_Sy_ofEnd 39 = .ok (.goto 12, 3) := by decide +kernel
theorem d_Sy_ofEnd_42 : decode b_Sy_ofEnd 42 = .ok (.aload_n 0, 1) := by decide +kernel
theorem d_Sy_ofEnd_43 : decode b_Sy_ofEnd 43 = .ok (.getfield 40, 3) := by decide +kernel
theorem d_Sy_ofEnd_46 : decode b_Sy_ofEnd 46 = .ok (.iload_n 1, 1) := by decide +kernel
theorem d_Sy_ofEnd_47 : decode b_Sy_ofEnd 47 = .ok (.aaload, 1) := by decide +kernel
theorem d_Sy_ofEnd_48 : decode b_Sy_ofEnd 48 = .ok (.getfield 178, 3) := by decide +kernel
theorem d_Sy_ofEnd_51 : decode b_Sy_ofEnd 51 = .ok (.ireturn, 1) := by decide +kernel
theorem d_Sy_count_0 : decode b_Sy_count 0 = .ok (.iload_n 1, 1) := by decide +kernel
theorem d_Sy_count_1 : decode b_Sy_count 1 = .ok (.tableswitch 105 0 9 #[55, 60, 65, 70, 75, 80, 85, 90, 95, 100], 55) := by decide +kernel
theorem d_Sy_count_56 : decode b_Sy_count 56 = .ok (.aload_n 0, 1) := by decide +kernel
theorem d_Sy_count_57 : decode b_Sy_count 57 = .ok (.invokevirtual 212, 3) := by decide +kernel
theorem d_Sy_count_60 : decode b_Sy_count 60 = .ok (.ireturn, 1) := by decide +kernel
theorem d_Sy_count_61 : decode b_Sy_count 61 = .ok (.aload_n 0, 1) := by decide +kernel
theorem d_Sy_count_62 : decode b_Sy_count 62 = .ok (.invokevirtual 215, 3) := by decide +kernel
theorem d_Sy_count_65 : decode b_Sy_count 65 = .ok (.ireturn, 1) := by decide +kernel
theorem d_Sy_count_66 : decode b_Sy_count 66 = .ok (.aload_n 0, 1) := by decide +kernel
theorem d_Sy_count_67 : decode b_Sy_count 67 = .ok (.invokevirtual 108, 3) := by decide +kernel
theorem d_Sy_count_70 : decode b_Sy_count 70 = .ok (.ireturn, 1) := by decide +kernel
theorem d_Sy_count_71 : decode b_Sy_count 71 = .ok (.aload_n 0, 1) := by decide +kernel
theorem d_Sy_count_72 : decode b_Sy_count 72 = .ok (.invokevirtual 218, 3) := by decide +kernel
theorem d_Sy_count_75 : decode b_Sy_count 75 = .ok (.ireturn, 1) := by decide +kernel
theorem d_Sy_count_76 : decode b_Sy_count 76 = .ok (.aload_n 0, 1) := by decide +kernel
theorem d_Sy_count_77 : decode b_Sy_count 77 = .ok (.invokevirtual 221, 3) := by decide +kernel
theorem d_Sy_count_80 : decode b_Sy_count 80 = .ok (.ireturn, 1) := by decide +kernel
theorem d_Sy_count_81 : decode b_Sy_count 81 = .ok (.aload_n 0, 1) := by decide +kernel
theorem d_Sy_count_82 : decode b_Sy_count 82 = .ok (.getfield 192, 3) := by decide +kernel
theorem d_Sy_count_85 : decode b_Sy_count 85 = .ok (.ireturn, 1) := by decide +kernel
theorem d_Sy_count_86 : decode b_Sy_count 86 = .ok (.aload_n 0, 1) := by decide +kernel
theorem d_Sy_count_87 : decode b_Sy_count 87 = .ok (.getfield 206, 3) := by decide +kernel
theorem d_Sy_count_90 : decode b_Sy_count 90 = .ok (.ireturn, 1) := by decide +kernel
theorem d_Sy_count_91 : decode b_Sy_count 91 = .ok (.aload_n 0, 1) := by decide +kernel
theorem d_Sy_count_92 : decode b_Sy_count 92 = .ok (.getfield 224, 3) := by decide +kernel
theorem d_Sy_count_95 : decode b_Sy_count 95 = .ok (.ireturn, 1) := by decide +kernel
theorem d_Sy_count_96 : decode b_Sy_count 96 = .ok (.aload_n 0, 1) := by decide +kernel
theorem d_Sy_count_97 : decode b_Sy_count 97 = .ok (.getfield 90, 3) := by decide +kernel
theorem d_Sy_count_100 : decode b_Sy_count 100 = .ok (.ireturn, 1) := by decide +kernel
theorem d_Sy_count_101 : decode b_Sy_count 101 = .ok (.aload_n 0, 1) := by decide +kernel
theorem d_Sy_count_102 : decode b_Sy_count 102 = .ok (.invokevirtual 227, 3) := by decide +kernel
theorem d_Sy_count_105 : decode b_Sy_count 105 = .ok (.ireturn, 1) := by decide +kernel
theorem d_Sy_count_106 : decode b_Sy_count 106 = .ok (.iconst (-1), 1) := by decide +kernel
theorem d_Sy_count_107 : decode b_Sy_count 107 = .ok (.ireturn, 1) := by decide +kernel
theorem d_Sy_byteAt_0 : decode b_Sy_byteAt 0 = .ok (.lload_n 0, 1) := by decide +kernel
theorem d_Sy_byteAt_1 : decode b_Sy_byteAt 1 = .ok (.iload_n 2, 1) := by decide +kernel
theorem d_Sy_byteAt_2 : decode b_Sy_byteAt 2 = .ok (.lushr, 1) := by decide +kernel
theorem d_Sy_byteAt_3 : decode b_Sy_byteAt 3 = .ok (.l2i, 1) := by decide +kernel
theorem d_Sy_byteAt_4 : decode b_Sy_byteAt 4 = .ok (.sipush 255, 3) := by decide +kernel
theorem d_Sy_byteAt_7 : decode b_Sy_byteAt 7 = .ok (.iand, 1) := by decide +kernel
theorem d_Sy_byteAt_8 : decode b_Sy_byteAt 8 = .ok (.ireturn, 1) := by decide +kernel
theorem d_Sy_needWithin_0 : decode b_Sy_needWithin 0 = .ok (.iload_n 0, 1) := by decide +kernel
theorem d_Sy_needWithin_1 : decode b_Sy_needWithin 1 = .ok (.iload_n 1, 1) := by decide +kernel
theorem d_Sy_needWithin_2 : decode b_Sy_needWithin 2 = .ok (.if_icmp .lt 8, 3) := by decide +kernel
theorem d_Sy_needWithin_5 : decode b_Sy_needWithin 5 = .ok (.iload_n 0, 1) := by decide +kernel
theorem d_Sy_needWithin_6 : decode b_Sy_needWithin 6 = .ok (.iload_n 2, 1) := by decide +kernel
theorem d_Sy_needWithin_7 : decode b_Sy_needWithin 7 = .ok (.if_icmp .le 13, 3) := by decide +kernel
theorem d_Sy_needWithin_10 : decode b_Sy_needWithin 10 = .ok (.new 72, 3) := by decide +kernel
theorem d_Sy_needWithin_13 : decode b_Sy_needWithin 13 = .ok (.dup, 1) := by decide +kernel
theorem d_Sy_needWithin_14 : decode b_Sy_needWithin 14 = .ok (.ldc 230, 2) := by decide +kernel
theorem d_Sy_needWithin_16 : decode b_Sy_needWithin 16 = .ok (.invokespecial 76, 3) := by decide +kernel
theorem d_Sy_needWithin_19 : decode b_Sy_needWithin 19 = .ok (.athrow, 1) := by decide +kernel
theorem d_Sy_needWithin_20 : decode b_Sy_needWithin 20 = .ok (.return_, 1) := by decide +kernel
theorem d_Sy_needBelow_0 : decode b_Sy_needBelow 0 = .ok (.iload_n 0, 1) := by decide +kernel
theorem d_Sy_needBelow_1 : decode b_Sy_needBelow 1 = .ok (.iconst 0, 1) := by decide +kernel
theorem d_Sy_needBelow_2 : decode b_Sy_needBelow 2 = .ok (.iload_n 1, 1) := by decide +kernel
theorem d_Sy_needBelow_3 : decode b_Sy_needBelow 3 = .ok (.iconst 1, 1) := by decide +kernel
theorem d_Sy_needBelow_4 : decode b_Sy_needBelow 4 = .ok (.isub, 1) := by decide +kernel
theorem d_Sy_needBelow_5 : decode b_Sy_needBelow 5 = .ok (.invokestatic 49, 3) := by decide +kernel
theorem d_Sy_needBelow_8 : decode b_Sy_needBelow 8 = .ok (.return_, 1) := by decide +kernel
theorem d_Sy_needAlive_0 : decode b_Sy_needAlive 0 = .ok (.aload_n 0, 1) := by decide +kernel
theorem d_Sy_needAlive_1 : decode b_Sy_needAlive 1 = .ok (.getfield 24, 3) := by decide +kernel
theorem d_Sy_needAlive_4 : decode b_Sy_needAlive 4 = .ok (.iload_n 1, 1) := by decide +kernel
theorem d_Sy_needAlive_5 : decode b_Sy_needAlive 5 = .ok (.baload, 1) := by decide +kernel
theorem d_Sy_needAlive_6 : decode b_Sy_needAlive 6 = .ok (.ifCond .ne 13, 3) := by decide +kernel
theorem d_Sy_needAlive_9 : decode b_Sy_needAlive 9 = .ok (.new 181, 3) := by decide +kernel
theorem d_Sy_needAlive_12 : decode b_Sy_needAlive 12 = .ok (.dup, 1) := by decide +kernel
theorem d_Sy_needAlive_13 : decode b_Sy_needAlive 13 = .ok (.ldc 232, 2) := by decide +kernel
theorem d_Sy_needAlive_15 : decode b_Sy_needAlive 15 = .ok (.invokespecial 185, 3) := by decide +kernel
theorem d_Sy_needAlive_18 : decode b_Sy_needAlive 18 = .ok (.athrow, 1) := by decide +kernel
theorem d_Sy_needAlive_19 : decode b_Sy_needAlive 19 = .ok (.return_, 1) := by decide +kernel
theorem d_Sy_needOwnBlock_0 : decode b_Sy_needOwnBlock 0 = .ok (.iload_n 1, 1) := by decide +kernel
theorem d_Sy_needOwnBlock_1 : decode b_Sy_needOwnBlock 1 = .ok (.iconst 4, 1) := by decide +kernel
theorem d_Sy_needOwnBlock_2 : decode b_Sy_needOwnBlock 2 = .ok (.invokestatic 64, 3) := by decide +kernel
theorem d_Sy_needOwnBlock_5 : decode b_Sy_needOwnBlock 5 = .ok (.iload_n 2, 1) := by decide +kernel
theorem d_Sy_needOwnBlock_6 : decode b_Sy_needOwnBlock 6 = .ok (.bipush 12, 2) := by decide +kernel
theorem d_Sy_needOwnBlock_8 : decode b_Sy_needOwnBlock 8 = .ok (.invokestatic 64, 3) := by decide +kernel
theorem d_Sy_needOwnBlock_11 : decode b_Sy_needOwnBlock 11 = .ok (.aload_n 0, 1) := by decide +kernel
theorem d_Sy_needOwnBlock_12 : decode b_Sy_needOwnBlock 12 = .ok (.iload_n 1, 1) := by decide +kernel
theorem d_Sy_needOwnBlock_13 : decode b_Sy_needOwnBlock 13 = .ok (.invokevirtual 86, 3) := by decide +kernel
theorem d_Sy_needOwnBlock_16 : decode b_Sy_needOwnBlock 16 = .ok (.aload_n 0, 1) := by decide +kernel
theorem d_Sy_needOwnBlock_17 : decode b_Sy_needOwnBlock 17 = .ok (.getfield 30, 3) := by decide +kernel
theorem d_Sy_needOwnBlock_20 : decode b_Sy_needOwnBlock 20 = .ok (.iload_n 2, 1) := by decide +kernel
theorem d_Sy_needOwnBlock_21 : decode b_Sy_needOwnBlock 21 = .ok (.aaload, 1) := by decide +kernel
theorem d_Sy_needOwnBlock_22 : decode b_Sy_needOwnBlock 22 = .ok (.getfield 93, 3) := by decide +kernel
theorem d_Sy_needOwnBlock_25 : decode b_Sy_needOwnBlock 25 = .ok (.iload_n 1, 1) := by decide +kernel
theorem d_Sy_needOwnBlock_26 : decode b_Sy_needOwnBlock 26 = .ok (.if_icmp .eq 13, 3) := by decide +kernel
theorem d_Sy_needOwnBlock_29 : decode b_Sy_needOwnBlock 29 = .ok (.new 181, 3) := by decide +kernel
theorem d_Sy_needOwnBlock_32 : decode b_Sy_needOwnBlock 32 = .ok (.dup, 1) := by decide +kernel
theorem d_Sy_needOwnBlock_33 : decode b_Sy_needOwnBlock 33 = .ok (.ldc 234, 2) := by decide +kernel
theorem d_Sy_needOwnBlock_35 : decode b_Sy_needOwnBlock 35 = .ok (.invokespecial 185, 3) := by decide +kernel
theorem d_Sy_needOwnBlock_38 : decode b_Sy_needOwnBlock 38 = .ok (.athrow, 1) := by decide +kernel
theorem d_Sy_needOwnBlock_39 : decode b_Sy_needOwnBlock 39 = .ok (.return_, 1) := by decide +kernel
theorem d_Sy_needCell_0 : decode b_Sy_needCell 0 = .ok (.iload_n 2, 1) := by decide +kernel
theorem d_Sy_needCell_1 : decode b_Sy_needCell 1 = .ok (.ifCond .lt 16, 3) := by decide +kernel
theorem d_Sy_needCell_4 : decode b_Sy_needCell 4 = .ok (.iload_n 2, 1) := by decide +kernel
theorem d_Sy_needCell_5 : decode b_Sy_needCell 5 = .ok (.aload_n 0, 1) := by decide +kernel
theorem d_Sy_needCell_6 : decode b_Sy_needCell 6 = .ok (.getfield 30, 3) := by decide +kernel
theorem d_Sy_needCell_9 : decode b_Sy_needCell 9 = .ok (.iload_n 1, 1) := by decide +kernel
theorem d_Sy_needCell_10 : decode b_Sy_needCell 10 = .ok (.aaload, 1) := by decide +kernel
theorem d_Sy_needCell_11 : decode b_Sy_needCell 11 = .ok (.getfield 211, 3) := by decide +kernel
theorem d_Sy_needCell_14 : decode b_Sy_needCell 14 = .ok (.if_icmp .lt 13, 3) := by decide +kernel
theorem d_Sy_needCell_17 : decode b_Sy_needCell 17 = .ok (.new 129, 3) := by decide +kernel
theorem d_Sy_needCell_20 : decode b_Sy_needCell 20 = .ok (.dup, 1) := by decide +kernel
theorem d_Sy_needCell_21 : decode b_Sy_needCell 21 = .ok (.ldc 236, 2) := by decide +kernel
theorem d_Sy_needCell_23 : decode b_Sy_needCell 23 = .ok (.invokespecial 133, 3) := by decide +kernel
theorem d_Sy_needCell_26 : decode b_Sy_needCell 26 = .ok (.athrow, 1) := by decide +kernel
theorem d_Sy_needCell_27 : decode b_Sy_needCell 27 = .ok (.return_, 1) := by decide +kernel
theorem d_Sy_needOwnEnd_0 : decode b_Sy_needOwnEnd 0 = .ok (.iload_n 1, 1) := by decide +kernel
theorem d_Sy_needOwnEnd_1 : decode b_Sy_needOwnEnd 1 = .ok (.iconst 4, 1) := by decide +kernel
theorem d_Sy_needOwnEnd_2 : decode b_Sy_needOwnEnd 2 = .ok (.invokestatic 64, 3) := by decide +kernel
theorem d_Sy_needOwnEnd_5 : decode b_Sy_needOwnEnd 5 = .ok (.iload_n 2, 1) := by decide +kernel
theorem d_Sy_needOwnEnd_6 : decode b_Sy_needOwnEnd 6 = .ok (.bipush 12, 2) := by decide +kernel
theorem d_Sy_needOwnEnd_8 : decode b_Sy_needOwnEnd 8 = .ok (.invokestatic 64, 3) := by decide +kernel
theorem d_Sy_needOwnEnd_11 : decode b_Sy_needOwnEnd 11 = .ok (.aload_n 0, 1) := by decide +kernel
theorem d_Sy_needOwnEnd_12 : decode b_Sy_needOwnEnd 12 = .ok (.iload_n 1, 1) := by decide +kernel
theorem d_Sy_needOwnEnd_13 : decode b_Sy_needOwnEnd 13 = .ok (.invokevirtual 86, 3) := by decide +kernel
theorem d_Sy_needOwnEnd_16 : decode b_Sy_needOwnEnd 16 = .ok (.aload_n 0, 1) := by decide +kernel
theorem d_Sy_needOwnEnd_17 : decode b_Sy_needOwnEnd 17 = .ok (.getfield 40, 3) := by decide +kernel
theorem d_Sy_needOwnEnd_20 : decode b_Sy_needOwnEnd 20 = .ok (.iload_n 2, 1) := by decide +kernel
theorem d_Sy_needOwnEnd_21 : decode b_Sy_needOwnEnd 21 = .ok (.aaload, 1) := by decide +kernel
theorem d_Sy_needOwnEnd_22 : decode b_Sy_needOwnEnd 22 = .ok (.getfield 99, 3) := by decide +kernel
theorem d_Sy_needOwnEnd_25 : decode b_Sy_needOwnEnd 25 = .ok (.iload_n 1, 1) := by decide +kernel
theorem d_Sy_needOwnEnd_26 : decode b_Sy_needOwnEnd 26 = .ok (.if_icmp .eq 13, 3) := by decide +kernel
theorem d_Sy_needOwnEnd_29 : decode b_Sy_needOwnEnd 29 = .ok (.new 181, 3) := by decide +kernel
theorem d_Sy_needOwnEnd_32 : decode b_Sy_needOwnEnd 32 = .ok (.dup, 1) := by decide +kernel
theorem d_Sy_needOwnEnd_33 : decode b_Sy_needOwnEnd 33 = .ok (.ldc 238, 2) := by decide +kernel
theorem d_Sy_needOwnEnd_35 : decode b_Sy_needOwnEnd 35 = .ok (.invokespecial 185, 3) := by decide +kernel
theorem d_Sy_needOwnEnd_38 : decode b_Sy_needOwnEnd 38 = .ok (.athrow, 1) := by decide +kernel
theorem d_Sy_needOwnEnd_39 : decode b_Sy_needOwnEnd 39 = .ok (.return_, 1) := by decide +kernel
theorem d_Sy_needAllowed_0 : decode b_Sy_needAllowed 0 = .ok (.iload_n 0, 1) := by decide +kernel
theorem d_Sy_needAllowed_1 : decode b_Sy_needAllowed 1 = .ok (.iconst (-1), 1) := by decide +kernel
theorem d_Sy_needAllowed_2 : decode b_Sy_needAllowed 2 = .ok (.if_icmp .ne 13, 3) := by decide +kernel
theorem d_Sy_needAllowed_5 : decode b_Sy_needAllowed 5 = .ok (.new 181, 3) := by decide +kernel
theorem d_Sy_needAllowed_8 : decode b_Sy_needAllowed 8 = .ok (.dup, 1) := by decide +kernel
theorem d_Sy_needAllowed_9 : decode b_Sy_needAllowed 9 = .ok (.ldc 240, 2) := by decide +kernel
theorem d_Sy_needAllowed_11 : decode b_Sy_needAllowed 11 = .ok (.invokespecial 185, 3) := by decide +kernel
theorem d_Sy_needAllowed_14 : decode b_Sy_needAllowed 14 = .ok (.athrow, 1) := by decide +kernel
theorem d_Sy_needAllowed_15 : decode b_Sy_needAllowed 15 = .ok (.return_, 1) := by decide +kernel
theorem d_Sy_needOwnLoad_0 : decode b_Sy_needOwnLoad 0 = .ok (.iload_n 3, 1) := by decide +kernel
theorem d_Sy_needOwnLoad_1 : decode b_Sy_needOwnLoad 1 = .ok (.invokestatic 242, 3) := by decide +kernel
theorem d_Sy_needOwnLoad_4 : decode b_Sy_needOwnLoad 4 = .ok (.ifCond .eq 23, 3) := by decide +kernel
theorem d_Sy_needOwnLoad_7 : decode b_Sy_needOwnLoad 7 = .ok (.aload_n 0, 1) := by decide +kernel
theorem d_Sy_needOwnLoad_8 : decode b_Sy_needOwnLoad 8 = .ok (.iload_n 1, 1) := by decide +kernel
theorem d_Sy_needOwnLoad_9 : decode b_Sy_needOwnLoad 9 = .ok (.iload 4, 2) := by decide +kernel
theorem d_Sy_needOwnLoad_11 : decode b_Sy_needOwnLoad 11 = .ok (.invokevirtual 246, 3) := by decide +kernel
theorem d_Sy_needOwnLoad_14 : decode b_Sy_needOwnLoad 14 = .ok (.ifCond .ne 13, 3) := by decide +kernel
theorem d_Sy_needOwnLoad_17 : decode b_Sy_needOwnLoad 17 = .ok (.new 181, 3) := by decide +kernel
theorem d_Sy_needOwnLoad_20 : decode b_Sy_needOwnLoad 20 = .ok (.dup, 1) := by decide +kernel
theorem d_Sy_needOwnLoad_21 : decode b_Sy_needOwnLoad 21 = .ok (.ldc 250, 2) := by decide +kernel
theorem d_Sy_needOwnLoad_23 : decode b_Sy_needOwnLoad 23 = .ok (.invokespecial 185, 3) := by decide +kernel
theorem d_Sy_needOwnLoad_26 : decode b_Sy_needOwnLoad 26 = .ok (.athrow, 1) := by decide +kernel
theorem d_Sy_needOwnLoad_27 : decode b_Sy_needOwnLoad 27 = .ok (.iload_n 3, 1) := by decide +kernel
theorem d_Sy_needOwnLoad_28 : decode b_Sy_needOwnLoad 28 = .ok (.invokestatic 252, 3) := by decide +kernel
theorem d_Sy_needOwnLoad_31 : decode b_Sy_needOwnLoad 31 = .ok (.ifCond .eq 25, 3) := by decide +kernel
theorem d_Sy_needOwnLoad_34 : decode b_Sy_needOwnLoad 34 = .ok (.aload_n 0, 1) := by decide +kernel
theorem d_Sy_needOwnLoad_35 : decode b_Sy_needOwnLoad 35 = .ok (.iload_n 1, 1) := by decide +kernel
theorem d_Sy_needOwnLoad_36 : decode b_Sy_needOwnLoad 36 = .ok (.iload 4, 2) := by decide +kernel
theorem d_Sy_needOwnLoad_38 : decode b_Sy_needOwnLoad 38 = .ok (.iload_n 2, 1) := by decide +kernel
theorem d_Sy_needOwnLoad_39 : decode b_Sy_needOwnLoad 39 = .ok (.invokevirtual 255, 3) := by decide +kernel
theorem d_Sy_needOwnLoad_42 : decode b_Sy_needOwnLoad 42 = .ok (.ifCond .ne 14, 3) := by decide +kernel
theorem d_Sy_needOwnLoad_45 : decode b_Sy_needOwnLoad 45 = .ok (.new 181, 3) := by decide +kernel
theorem d_Sy_needOwnLoad_48 : decode b_Sy_needOwnLoad 48 = .ok (.dup, 1) := by decide +kernel
theorem d_Sy_needOwnLoad_49 : decode b_Sy_needOwnLoad 49 = .ok (.ldc_w 259, 3) := by decide +kernel
theorem d_Sy_needOwnLoad_52 : decode b_Sy_needOwnLoad 52 = .ok (.invokespecial 185, 3) := by decide +kernel
theorem d_Sy_needOwnLoad_55 : decode b_Sy_needOwnLoad 55 = .ok (.athrow, 1) := by decide +kernel
theorem d_Sy_needOwnLoad_56 : decode b_Sy_needOwnLoad 56 = .ok (.return_, 1) := by decide +kernel
theorem d_Sy_ownsBlock_0 : decode b_Sy_ownsBlock 0 = .ok (.iload_n 2, 1) := by decide +kernel
theorem d_Sy_ownsBlock_1 : decode b_Sy_ownsBlock 1 = .ok (.ifCond .lt 26, 3) := by decide +kernel
theorem d_Sy_ownsBlock_4 : decode b_Sy_ownsBlock 4 = .ok (.iload_n 2, 1) := by decide +kernel
theorem d_Sy_ownsBlock_5 : decode b_Sy_ownsBlock 5 = .ok (.bipush 12, 2) := by decide +kernel
theorem d_Sy_ownsBlock_7 : decode b_Sy_ownsBlock 7 = .ok (.if_icmp .ge 20, 3) := by decide +kernel
theorem d_Sy_ownsBlock_10 : decode b_Sy_ownsBlock 10 = .ok (.aload_n 0, 1) := by decide +kernel
theorem d_Sy_ownsBlock_11 : decode b_Sy_ownsBlock 11 = .ok (.getfield 30, 3) := by decide +kernel
theorem d_Sy_ownsBlock_14 : decode b_Sy_ownsBlock 14 = .ok (.iload_n 2, 1) := by decide +kernel
theorem d_Sy_ownsBlock_15 : decode b_Sy_ownsBlock 15 = .ok (.aaload, 1) := by decide +kernel
theorem d_Sy_ownsBlock_16 : decode b_Sy_ownsBlock 16 = .ok (.getfield 93, 3) := by decide +kernel
theorem d_Sy_ownsBlock_19 : decode b_Sy_ownsBlock 19 = .ok (.iload_n 1, 1) := by decide +kernel
theorem d_Sy_ownsBlock_20 : decode b_Sy_ownsBlock 20 = .ok (.if_icmp .ne 7, 3) := by decide +kernel
theorem d_Sy_ownsBlock_23 : decode b_Sy_ownsBlock 23 = .ok (.iconst 1, 1) := by decide +kernel
theorem d_Sy_ownsBlock_24 : decode b_Sy_ownsBlock 24 = .ok (.goto 4, 3) := by decide +kernel
theorem d_Sy_ownsBlock_27 : decode b_Sy_ownsBlock 27 = .ok (.iconst 0, 1) := by decide +kernel
theorem d_Sy_ownsBlock_28 : decode b_Sy_ownsBlock 28 = .ok (.ireturn, 1) := by decide +kernel
theorem d_Sy_ownsEndOfOtherChannel_0 : decode b_Sy_ownsEndOfOtherChannel 0 = .ok (.iload_n 2, 1) := by decide +kernel
theorem d_Sy_ownsEndOfOtherChannel_1 : decode b_Sy_ownsEndOfOtherChannel 1 = .ok (.ifCond .lt 35, 3) := by decide +kernel
theorem d_Sy_ownsEndOfOtherChannel_4 : decode b_Sy_ownsEndOfOtherChannel 4 = .ok (.iload_n 2, 1) := by decide +kernel
theorem d_Sy_ownsEndOfOtherChannel_5 : decode b_Sy_ownsEndOfOtherChannel 5 = .ok (.bipush 12, 2) := by decide +kernel
theorem d_Sy_ownsEndOfOtherChannel_7 : decode b_Sy_ownsEndOfOtherChannel 7 = .ok (.if_icmp .ge 29, 3) := by decide +kernel
theorem d_Sy_ownsEndOfOtherChannel_10 : decode b_Sy_ownsEndOfOtherChannel 10 = .ok (.iload_n 2, 1) := by decide +kernel
theorem d_Sy_ownsEndOfOtherChannel_11 : decode b_Sy_ownsEndOfOtherChannel 11 = .ok (.iconst 2, 1) := by decide +kernel
theorem d_Sy_ownsEndOfOtherChannel_12 : decode b_Sy_ownsEndOfOtherChannel 12 = .ok (.idiv, 1) := by decide +kernel
theorem d_Sy_ownsEndOfOtherChannel_13 : decode b_Sy_ownsEndOfOtherChannel 13 = .ok (.iload_n 3, 1) := by decide +kernel
theorem d_Sy_ownsEndOfOtherChannel_14 : decode b_Sy_ownsEndOfOtherChannel 14 = .ok (.iconst 2, 1) := by decide +kernel
theorem d_Sy_ownsEndOfOtherChannel_15 : decode b_Sy_ownsEndOfOtherChannel 15 = .ok (.idiv, 1) := by decide +kernel
theorem d_Sy_ownsEndOfOtherChannel_16 : decode b_Sy_ownsEndOfOtherChannel 16 = .ok (.if_icmp .eq 20, 3) := by decide +kernel
theorem d_Sy_ownsEndOfOtherChannel_19 : decode b_Sy_ownsEndOfOtherChannel 19 = .ok (.aload_n 0, 1) := by decide +kernel
theorem d_Sy_ownsEndOfOtherChannel_20 : decode b_Sy_ownsEndOfOtherChannel 20 = .ok (.getfield 40, 3) := by decide +kernel
theorem d_Sy_ownsEndOfOtherChannel_23 : decode b_Sy_ownsEndOfOtherChannel 23 = .ok (.iload_n 2, 1) := by decide +kernel
theorem d_Sy_ownsEndOfOtherChannel_24 : decode b_Sy_ownsEndOfOtherChannel 24 = .ok (.aaload, 1) := by decide +kernel
theorem d_Sy_ownsEndOfOtherChannel_25 : decode b_Sy_ownsEndOfOtherChannel 25 = .ok (.getfield 99, 3) := by decide +kernel
theorem d_Sy_ownsEndOfOtherChannel_28 : decode b_Sy_ownsEndOfOtherChannel 28 = .ok (.iload_n 1, 1) := by decide +kernel
theorem d_Sy_ownsEndOfOtherChannel_29 : decode b_Sy_ownsEndOfOtherChannel 29 = .ok (.if_icmp .ne 7, 3) := by decide +kernel
theorem d_Sy_ownsEndOfOtherChannel_32 : decode b_Sy_ownsEndOfOtherChannel 32 = .ok (.iconst 1, 1) := by decide +kernel
theorem d_Sy_ownsEndOfOtherChannel_33 : decode b_Sy_ownsEndOfOtherChannel 33 = .ok (.goto 4, 3) := by decide +kernel
theorem d_Sy_ownsEndOfOtherChannel_36 : decode b_Sy_ownsEndOfOtherChannel 36 = .ok (.iconst 0, 1) := by decide +kernel
theorem d_Sy_ownsEndOfOtherChannel_37 : decode b_Sy_ownsEndOfOtherChannel 37 = .ok (.ireturn, 1) := by decide +kernel
theorem d_Sy_carriesBlock_0 : decode b_Sy_carriesBlock 0 = .ok (.iload_n 0, 1) := by decide +kernel
theorem d_Sy_carriesBlock_1 : decode b_Sy_carriesBlock 1 = .ok (.iconst 3, 1) := by decide +kernel
theorem d_Sy_carriesBlock_2 : decode b_Sy_carriesBlock 2 = .ok (.if_icmp .lt 13, 3) := by decide +kernel
theorem d_Sy_carriesBlock_5 : decode b_Sy_carriesBlock 5 = .ok (.iload_n 0, 1) := by decide +kernel
theorem d_Sy_carriesBlock_6 : decode b_Sy_carriesBlock 6 = .ok (.bipush 6, 2) := by decide +kernel
theorem d_Sy_carriesBlock_8 : decode b_Sy_carriesBlock 8 = .ok (.if_icmp .ge 7, 3) := by decide +kernel
theorem d_Sy_carriesBlock_11 : decode b_Sy_carriesBlock 11 = .ok (.iconst 1, 1) := by decide +kernel
theorem d_Sy_carriesBlock_12 : decode b_Sy_carriesBlock 12 = .ok (.goto 4, 3) := by decide +kernel
theorem d_Sy_carriesBlock_15 : decode b_Sy_carriesBlock 15 = .ok (.iconst 0, 1) := by decide +kernel
theorem d_Sy_carriesBlock_16 : decode b_Sy_carriesBlock 16 = .ok (.ireturn, 1) := by decide +kernel
theorem d_Sy_carriesEnd_0 : decode b_Sy_carriesEnd 0 = .ok (.iload_n 0, 1) := by decide +kernel
theorem d_Sy_carriesEnd_1 : decode b_Sy_carriesEnd 1 = .ok (.bipush 6, 2) := by decide +kernel
theorem d_Sy_carriesEnd_3 : decode b_Sy_carriesEnd 3 = .ok (.if_icmp .ne 7, 3) := by decide +kernel
theorem d_Sy_carriesEnd_6 : decode b_Sy_carriesEnd 6 = .ok (.iconst 1, 1) := by decide +kernel
theorem d_Sy_carriesEnd_7 : decode b_Sy_carriesEnd 7 = .ok (.goto 4, 3) := by decide +kernel
theorem d_Sy_carriesEnd_10 : decode b_Sy_carriesEnd 10 = .ok (.iconst 0, 1) := by decide +kernel
theorem d_Sy_carriesEnd_11 : decode b_Sy_carriesEnd 11 = .ok (.ireturn, 1) := by decide +kernel
theorem d_Sy_giveLoad_0 : decode b_Sy_giveLoad 0 = .ok (.iload_n 1, 1) := by decide +kernel
theorem d_Sy_giveLoad_1 : decode b_Sy_giveLoad 1 = .ok (.invokestatic 242, 3) := by decide +kernel
theorem d_Sy_giveLoad_4 : decode b_Sy_giveLoad 4 = .ok (.ifCond .eq 16, 3) := by decide +kernel
theorem d_Sy_giveLoad_7 : decode b_Sy_giveLoad 7 = .ok (.aload_n 0, 1) := by decide +kernel
theorem d_Sy_giveLoad_8 : decode b_Sy_giveLoad 8 = .ok (.getfield 30, 3) := by decide +kernel
theorem d_Sy_giveLoad_11 : decode b_Sy_giveLoad 11 = .ok (.iload_n 2, 1) := by decide +kernel
theorem d_Sy_giveLoad_12 : decode b_Sy_giveLoad 12 = .ok (.aaload, 1) := by decide +kernel
theorem d_Sy_giveLoad_13 : decode b_Sy_giveLoad 13 = .ok (.iload_n 3, 1) := by decide +kernel
theorem d_Sy_giveLoad_14 : decode b_Sy_giveLoad 14 = .ok (.putfield 93, 3) := by decide +kernel
theorem d_Sy_giveLoad_17 : decode b_Sy_giveLoad 17 = .ok (.goto 20, 3) := by decide +kernel
theorem d_Sy_giveLoad_20 : decode b_Sy_giveLoad 20 = .ok (.iload_n 1, 1) := by decide +kernel
theorem d_Sy_giveLoad_21 : decode b_Sy_giveLoad 21 = .ok (.invokestatic 252, 3) := by decide +kernel
theorem d_Sy_giveLoad_24 : decode b_Sy_giveLoad 24 = .ok (.ifCond .eq 13, 3) := by decide +kernel
theorem d_Sy_giveLoad_27 : decode b_Sy_giveLoad 27 = .ok (.aload_n 0, 1) := by decide +kernel
theorem d_Sy_giveLoad_28 : decode b_Sy_giveLoad 28 = .ok (.getfield 40, 3) := by decide +kernel
theorem d_Sy_giveLoad_31 : decode b_Sy_giveLoad 31 = .ok (.iload_n 2, 1) := by decide +kernel
theorem d_Sy_giveLoad_32 : decode b_Sy_giveLoad 32 = .ok (.aaload, 1) := by decide +kernel
theorem d_Sy_giveLoad_33 : decode b_Sy_giveLoad 33 = .ok (.iload_n 3, 1) := by decide +kernel
theorem d_Sy_giveLoad_34 : decode b_Sy_giveLoad 34 = .ok (.putfield 99, 3) := by decide +kernel
theorem d_Sy_giveLoad_37 : decode b_Sy_giveLoad 37 = .ok (.return_, 1) := by decide +kernel
theorem d_Sy_sideOf_0 : decode b_Sy_sideOf 0 = .ok (.iload_n 0, 1) := by decide +kernel
theorem d_Sy_sideOf_1 : decode b_Sy_sideOf 1 = .ok (.iconst 1, 1) := by decide +kernel
theorem d_Sy_sideOf_2 : decode b_Sy_sideOf 2 = .ok (.iand, 1) := by decide +kernel
theorem d_Sy_sideOf_3 : decode b_Sy_sideOf 3 = .ok (.ireturn, 1) := by decide +kernel
theorem d_Sy_otherEnd_0 : decode b_Sy_otherEnd 0 = .ok (.iload_n 0, 1) := by decide +kernel
theorem d_Sy_otherEnd_1 : decode b_Sy_otherEnd 1 = .ok (.iconst 1, 1) := by decide +kernel
theorem d_Sy_otherEnd_2 : decode b_Sy_otherEnd 2 = .ok (.ixor, 1) := by decide +kernel
theorem d_Sy_otherEnd_3 : decode b_Sy_otherEnd 3 = .ok (.ireturn, 1) := by decide +kernel
theorem d_Sy_closeEnd_0 : decode b_Sy_closeEnd 0 = .ok (.aload_n 0, 1) := by decide +kernel
theorem d_Sy_closeEnd_1 : decode b_Sy_closeEnd 1 = .ok (.getfield 40, 3) := by decide +kernel
theorem d_Sy_closeEnd_4 : decode b_Sy_closeEnd 4 = .ok (.iload_n 1, 1) := by decide +kernel
theorem d_Sy_closeEnd_5 : decode b_Sy_closeEnd 5 = .ok (.aaload, 1) := by decide +kernel
theorem d_Sy_closeEnd_6 : decode b_Sy_closeEnd 6 = .ok (.astore_n 3, 1) := by decide +kernel
theorem d_Sy_closeEnd_7 : decode b_Sy_closeEnd 7 = .ok (.aload_n 3, 1) := by decide +kernel
theorem d_Sy_closeEnd_8 : decode b_Sy_closeEnd 8 = .ok (.invokevirtual 173, 3) := by decide +kernel
theorem d_Sy_closeEnd_11 : decode b_Sy_closeEnd 11 = .ok (.ifCond .eq 9, 3) := by decide +kernel
theorem d_Sy_closeEnd_14 : decode b_Sy_closeEnd 14 = .ok (.iload_n 2, 1) := by decide +kernel
theorem d_Sy_closeEnd_15 : decode b_Sy_closeEnd 15 = .ok (.bipush 12, 2) := by decide +kernel
theorem d_Sy_closeEnd_17 : decode b_Sy_closeEnd 17 = .ok (.if_icmp .lt 5, 3) := by decide +kernel
theorem d_Sy_closeEnd_20 : decode b_Sy_closeEnd 20 = .ok (.iconst 0, 1) := by decide +kernel
theorem d_Sy_closeEnd_21 : decode b_Sy_closeEnd 21 = .ok (.ireturn, 1) := by decide +kernel
theorem d_Sy_closeEnd_22 : decode b_Sy_closeEnd 22 = .ok (.aload_n 3, 1) := by decide +kernel
theorem d_Sy_closeEnd_23 : decode b_Sy_closeEnd 23 = .ok (.iconst (-1), 1) := by decide +kernel
theorem d_Sy_closeEnd_24 : decode b_Sy_closeEnd 24 = .ok (.putfield 99, 3) := by decide +kernel
theorem d_Sy_closeEnd_27 : decode b_Sy_closeEnd 27 = .ok (.iconst 1, 1) := by decide +kernel
theorem d_Sy_closeEnd_28 : decode b_Sy_closeEnd 28 = .ok (.istore 4, 2) := by decide +kernel
theorem d_Sy_closeEnd_30 : decode b_Sy_closeEnd 30 = .ok (.iconst 0, 1) := by decide +kernel
theorem d_Sy_closeEnd_31 : decode b_Sy_closeEnd 31 = .ok (.istore 5, 2) := by decide +kernel
theorem d_Sy_closeEnd_33 : decode b_Sy_closeEnd 33 = .ok (.iload 5, 2) := by decide +kernel
theorem d_Sy_closeEnd_35 : decode b_Sy_closeEnd 35 = .ok (.aload_n 3, 1) := by decide +kernel
theorem d_Sy_closeEnd_36 : decode b_Sy_closeEnd 36 = .ok (.getfield 178, 3) := by decide +kernel
theorem d_Sy_closeEnd_39 : decode b_Sy_closeEnd 39 = .ok (.if_icmp .ge 33, 3) := by decide +kernel
theorem d_Sy_closeEnd_42 : decode b_Sy_closeEnd 42 = .ok (.iload 4, 2) := by decide +kernel
theorem d_Sy_closeEnd_44 : decode b_Sy_closeEnd 44 = .ok (.aload_n 0, 1) := by decide +kernel
theorem d_Sy_closeEnd_45 : decode b_Sy_closeEnd 45 = .ok (.aload_n 3, 1) := by decide +kernel
theorem d_Sy_closeEnd_46 : decode b_Sy_closeEnd 46 = .ok (.getfield 197, 3) := by decide +kernel
theorem d_Sy_closeEnd_49 : decode b_Sy_closeEnd 49 = .ok (.iload 5, 2) := by decide +kernel
theorem d_Sy_closeEnd_51 : decode b_Sy_closeEnd 51 = .ok (.iaload, 1) := by decide +kernel
theorem d_Sy_closeEnd_52 : decode b_Sy_closeEnd 52 = .ok (.aload_n 3, 1) := by decide +kernel
theorem d_Sy_closeEnd_53 : decode b_Sy_closeEnd 53 = .ok (.getfield 200, 3) := by decide +kernel
theorem d_Sy_closeEnd_56 : decode b_Sy_closeEnd 56 = .ok (.iload 5, 2) := by decide +kernel
theorem d_Sy_closeEnd_58 : decode b_Sy_closeEnd 58 = .ok (.iaload, 1) := by decide +kernel
theorem d_Sy_closeEnd_59 : decode b_Sy_closeEnd 59 = .ok (.iload_n 2, 1) := by decide +kernel
theorem d_Sy_closeEnd_60 : decode b_Sy_closeEnd 60 = .ok (.invokevirtual 261, 3) := by decide +kernel
theorem d_Sy_closeEnd_63 : decode b_Sy_closeEnd 63 = .ok (.iadd, 1) := by decide +kernel
theorem d_Sy_closeEnd_64 : decode b_Sy_closeEnd 64 = .ok (.istore 4, 2) := by decide +kernel
theorem d_Sy_closeEnd_66 : decode b_Sy_closeEnd 66 = .ok (.iinc 5 1, 3) := by decide +kernel
theorem d_Sy_closeEnd_69 : decode b_Sy_closeEnd 69 = .ok (.goto (-36), 3) := by decide +kernel
theorem d_Sy_closeEnd_72 : decode b_Sy_closeEnd 72 = .ok (.aload_n 3, 1) := by decide +kernel
theorem d_Sy_closeEnd_73 : decode b_Sy_closeEnd 73 = .ok (.iconst 0, 1) := by decide +kernel
theorem d_Sy_closeEnd_74 : decode b_Sy_closeEnd 74 = .ok (.putfield 178, 3) := by decide +kernel
theorem d_Sy_closeEnd_77 : decode b_Sy_closeEnd 77 = .ok (.aload_n 3, 1) := by decide +kernel
theorem d_Sy_closeEnd_78 : decode b_Sy_closeEnd 78 = .ok (.iconst 0, 1) := by decide +kernel
theorem d_Sy_closeEnd_79 : decode b_Sy_closeEnd 79 = .ok (.putfield 152, 3) := by decide +kernel
theorem d_Sy_closeEnd_82 : decode b_Sy_closeEnd 82 = .ok (.iload 4, 2) := by decide +kernel
theorem d_Sy_closeEnd_84 : decode b_Sy_closeEnd 84 = .ok (.ireturn, 1) := by decide +kernel
theorem d_Sy_dropMessage_0 : decode b_Sy_dropMessage 0 = .ok (.aload_n 0, 1) := by decide +kernel
theorem d_Sy_dropMessage_1 : decode b_Sy_dropMessage 1 = .ok (.dup, 1) := by decide +kernel
theorem d_Sy_dropMessage_2 : decode b_Sy_dropMessage 2 = .ok (.getfield 224, 3) := by decide +kernel
theorem d_Sy_dropMessage_5 : decode b_Sy_dropMessage 5 = .ok (.iconst 1, 1) := by decide +kernel
theorem d_Sy_dropMessage_6 : decode b_Sy_dropMessage 6 = .ok (.iadd, 1) := by decide +kernel
theorem d_Sy_dropMessage_7 : decode b_Sy_dropMessage 7 = .ok (.putfield 224, 3) := by decide +kernel
theorem d_Sy_dropMessage_10 : decode b_Sy_dropMessage 10 = .ok (.iload_n 1, 1) := by decide +kernel
theorem d_Sy_dropMessage_11 : decode b_Sy_dropMessage 11 = .ok (.invokestatic 242, 3) := by decide +kernel
theorem d_Sy_dropMessage_14 : decode b_Sy_dropMessage 14 = .ok (.ifCond .eq 14, 3) := by decide +kernel
theorem d_Sy_dropMessage_17 : decode b_Sy_dropMessage 17 = .ok (.aload_n 0, 1) := by decide +kernel
theorem d_Sy_dropMessage_18 : decode b_Sy_dropMessage 18 = .ok (.getfield 30, 3) := by decide +kernel
theorem d_Sy_dropMessage_21 : decode b_Sy_dropMessage 21 = .ok (.iload_n 2, 1) := by decide +kernel
theorem d_Sy_dropMessage_22 : decode b_Sy_dropMessage 22 = .ok (.aaload, 1) := by decide +kernel
theorem d_Sy_dropMessage_23 : decode b_Sy_dropMessage 23 = .ok (.invokevirtual 96, 3) := by decide +kernel
theorem d_Sy_dropMessage_26 : decode b_Sy_dropMessage 26 = .ok (.iconst 1, 1) := by decide +kernel
theorem d_Sy_dropMessage_27 : decode b_Sy_dropMessage 27 = .ok (.ireturn, 1) := by decide +kernel
theorem d_Sy_dropMessage_28 : decode b_Sy_dropMessage 28 = .ok (.iload_n 1, 1) := by decide +kernel
theorem d_Sy_dropMessage_29 : decode b_Sy_dropMessage 29 = .ok (.invokestatic 252, 3) := by decide +kernel
theorem d_Sy_dropMessage_32 : decode b_Sy_dropMessage 32 = .ok (.ifCond .eq 14, 3) := by decide +kernel
theorem d_Sy_dropMessage_35 : decode b_Sy_dropMessage 35 = .ok (.aload_n 0, 1) := by decide +kernel
theorem d_Sy_dropMessage_36 : decode b_Sy_dropMessage 36 = .ok (.iload_n 2, 1) := by decide +kernel
theorem d_Sy_dropMessage_37 : decode b_Sy_dropMessage 37 = .ok (.iload_n 3, 1) := by decide +kernel
theorem d_Sy_dropMessage_38 : decode b_Sy_dropMessage 38 = .ok (.iconst 1, 1) := by decide +kernel
theorem d_Sy_dropMessage_39 : decode b_Sy_dropMessage 39 = .ok (.iadd, 1) := by decide +kernel
theorem d_Sy_dropMessage_40 : decode b_Sy_dropMessage 40 = .ok (.invokevirtual 100, 3) := by decide +kernel
theorem d_Sy_dropMessage_43 : decode b_Sy_dropMessage 43 = .ok (.goto 4, 3) := by decide +kernel
theorem d_Sy_dropMessage_46 : decode b_Sy_dropMessage 46 = .ok (.iconst 0, 1) := by decide +kernel
theorem d_Sy_dropMessage_47 : decode b_Sy_dropMessage 47 = .ok (.ireturn, 1) := by decide +kernel
theorem d_Sy_draftFromText_0 : decode b_Sy_draftFromText 0 = .ok (.aload_n 0, 1) := by decide +kernel
theorem d_Sy_draftFromText_1 : decode b_Sy_draftFromText 1 = .ok (.getfield 16, 3) := by decide +kernel
theorem d_Sy_draftFromText_4 : decode b_Sy_draftFromText 4 = .ok (.invokevirtual 264, 3) := by decide +kernel
theorem d_Sy_draftFromText_7 : decode b_Sy_draftFromText 7 = .ok (.aload_n 0, 1) := by decide +kernel
theorem d_Sy_draftFromText_8 : decode b_Sy_draftFromText 8 = .ok (.getfield 53, 3) := by decide +kernel
theorem d_Sy_draftFromText_11 : decode b_Sy_draftFromText 11 = .ok (.iconst 5, 1) := by decide +kernel
theorem d_Sy_draftFromText_12 : decode b_Sy_draftFromText 12 = .ok (.irem, 1) := by decide +kernel
theorem d_Sy_draftFromText_13 : decode b_Sy_draftFromText 13 = .ok (.iconst 4, 1) := by decide +kernel
theorem d_Sy_draftFromText_14 : decode b_Sy_draftFromText 14 = .ok (.if_icmp .eq 5, 3) := by decide +kernel
theorem d_Sy_draftFromText_17 : decode b_Sy_draftFromText 17 = .ok (.iconst 0, 1) := by decide +kernel
theorem d_Sy_draftFromText_18 : decode b_Sy_draftFromText 18 = .ok (.ireturn, 1) := by decide +kernel
theorem d_Sy_draftFromText_19 : decode b_Sy_draftFromText 19 = .ok (.iconst 0, 1) := by decide +kernel
theorem d_Sy_draftFromText_20 : decode b_Sy_draftFromText 20 = .ok (.istore_n 1, 1) := by decide +kernel
theorem d_Sy_draftFromText_21 : decode b_Sy_draftFromText 21 = .ok (.iload_n 1, 1) := by decide +kernel
theorem d_Sy_draftFromText_22 : decode b_Sy_draftFromText 22 = .ok (.iconst 4, 1) := by decide +kernel
theorem d_Sy_draftFromText_23 : decode b_Sy_draftFromText 23 = .ok (.iadd, 1) := by decide +kernel
theorem d_Sy_draftFromText_24 : decode b_Sy_draftFromText 24 = .ok (.aload_n 0, 1) := by decide +kernel
theorem d_Sy_draftFromText_25 : decode b_Sy_draftFromText 25 = .ok (.getfield 53, 3) := by decide +kernel
theorem d_Sy_draftFromText_28 : decode b_Sy_draftFromText 28 = .ok (.if_icmp .gt 46, 3) := by decide +kernel
theorem d_Sy_draftFromText_31 : decode b_Sy_draftFromText 31 = .ok (.iload_n 1, 1) := by decide +kernel
theorem d_Sy_draftFromText_32 : decode b_Sy_draftFromText 32 = .ok (.ifCond .eq 16, 3) := by decide +kernel
theorem d_Sy_draftFromText_35 : decode b_Sy_draftFromText 35 = .ok (.aload_n 0, 1) := by decide +kernel
theorem d_Sy_draftFromText_36 : decode b_Sy_draftFromText 36 = .ok (.getfield 9, 3) := by decide +kernel
theorem d_Sy_draftFromText_39 : decode b_Sy_draftFromText 39 = .ok (.iload_n 1, 1) := by decide +kernel
theorem d_Sy_draftFromText_40 : decode b_Sy_draftFromText 40 = .ok (.iconst 1, 1) := by decide +kernel
theorem d_Sy_draftFromText_41 : decode b_Sy_draftFromText 41 = .ok (.isub, 1) := by decide +kernel
theorem d_Sy_draftFromText_42 : decode b_Sy_draftFromText 42 = .ok (.caload, 1) := by decide +kernel
theorem d_Sy_draftFromText_43 : decode b_Sy_draftFromText 43 = .ok (.bipush 44, 2) := by decide +kernel
theorem d_Sy_draftFromText_45 : decode b_Sy_draftFromText 45 = .ok (.if_icmp .ne 7, 3) := by decide +kernel
theorem d_Sy_draftFromText_48 : decode b_Sy_draftFromText 48 = .ok (.iconst 1, 1) := by decide +kernel
theorem d_Sy_draftFromText_49 : decode b_Sy_draftFromText 49 = .ok (.goto 4, 3) := by decide +kernel
theorem d_Sy_draftFromText_52 : decode b_Sy_draftFromText 52 = .ok (.iconst 0, 1) := by decide +kernel
theorem d_Sy_draftFromText_53 : decode b_Sy_draftFromText 53 = .ok (.istore_n 2, 1) := by decide +kernel
theorem d_Sy_draftFromText_54 : decode b_Sy_draftFromText 54 = .ok (.iload_n 2, 1) := by decide +kernel
theorem d_Sy_draftFromText_55 : decode b_Sy_draftFromText 55 = .ok (.ifCond .eq 11, 3) := by decide +kernel
theorem d_Sy_draftFromText_58 : decode b_Sy_draftFromText 58 = .ok (.aload_n 0, 1) := by decide +kernel
theorem d_Sy_draftFromText_59 : decode b_Sy_draftFromText 59 = .ok (.iload_n 1, 1) := by decide +kernel
theorem d_Sy_draftFromText_60 : decode b_Sy_draftFromText 60 = .ok (.invokevirtual 267, 3) := by decide +kernel
theorem d_Sy_draftFromText_63 : decode b_Sy_draftFromText 63 = .ok (.ifCond .ne 5, 3) := by decide +kernel
theorem d_Sy_draftFromText_66 : decode b_Sy_draftFromText 66 = .ok (.iconst 0, 1) := by decide +kernel
theorem d_Sy_draftFromText_67 : decode b_Sy_draftFromText 67 = .ok (.ireturn, 1) := by decide +kernel
theorem d_Sy_draftFromText_68 : decode b_Sy_draftFromText 68 = .ok (.iinc 1 5, 3) := by decide +kernel
theorem d_Sy_draftFromText_71 : decode b_Sy_draftFromText 71 = .ok (.goto (-50), 3) := by decide +kernel
theorem d_Sy_draftFromText_74 : decode b_Sy_draftFromText 74 = .ok (.iconst 1, 1) := by decide +kernel
theorem d_Sy_draftFromText_75 : decode b_Sy_draftFromText 75 = .ok (.ireturn, 1) := by decide +kernel
theorem d_Sy_draftRuleAt_0 : decode b_Sy_draftRuleAt 0 = .ok (.aload_n 0, 1) := by decide +kernel
theorem d_Sy_draftRuleAt_1 : decode b_Sy_draftRuleAt 1 = .ok (.getfield 9, 3) := by decide +kernel
theorem d_Sy_draftRuleAt_4 : decode b_Sy_draftRuleAt 4 = .ok (.iload_n 1, 1) := by decide +kernel
theorem d_Sy_draftRuleAt_5 : decode b_Sy_draftRuleAt 5 = .ok (.caload, 1) := by decide +kernel
theorem d_Sy_draftRuleAt_6 : decode b_Sy_draftRuleAt 6 = .ok (.bipush 48, 2) := by decide +kernel
theorem d_Sy_draftRuleAt_8 : decode b_Sy_draftRuleAt 8 = .ok (.isub, 1) := by decide +kernel
theorem d_Sy_draftRuleAt_9 : decode b_Sy_draftRuleAt 9 = .ok (.istore_n 2, 1) := by decide +kernel
theorem d_Sy_draftRuleAt_10 : decode b_Sy_draftRuleAt 10 = .ok (.ldc 142, 2) := by decide +kernel
theorem d_Sy_draftRuleAt_12 : decode b_Sy_draftRuleAt 12 = .ok (.aload_n 0, 1) := by decide +kernel
theorem d_Sy_draftRuleAt_13 : decode b_Sy_draftRuleAt 13 = .ok (.getfield 9, 3) := by decide +kernel
theorem d_Sy_draftRuleAt_16 : decode b_Sy_draftRuleAt 16 = .ok (.iload_n 1, 1) := by decide +kernel
theorem d_Sy_draftRuleAt_17 : decode b_Sy_draftRuleAt 17 = .ok (.iconst 1, 1) := by decide +kernel
theorem d_Sy_draftRuleAt_18 : decode b_Sy_draftRuleAt 18 = .ok (.iadd, 1) := by decide +kernel
theorem d_Sy_draftRuleAt_19 : decode b_Sy_draftRuleAt 19 = .ok (.caload, 1) := by decide +kernel
theorem d_Sy_draftRuleAt_20 : decode b_Sy_draftRuleAt 20 = .ok (.invokevirtual 270, 3) := by decide +kernel
theorem d_Sy_draftRuleAt_23 : decode b_Sy_draftRuleAt 23 = .ok (.istore_n 3, 1) := by decide +kernel
theorem d_Sy_draftRuleAt_24 : decode b_Sy_draftRuleAt 24 = .ok (.ldc_w 273, 3) := by decide +kernel
theorem d_Sy_draftRuleAt_27 : decode b_Sy_draftRuleAt 27 = .ok (.aload_n 0, 1) := by decide +kernel
theorem d_Sy_draftRuleAt_28 : decode b_Sy_draftRuleAt 28 = .ok (.getfield 9, 3) := by decide +kernel
theorem d_Sy_draftRuleAt_31 : decode b_Sy_draftRuleAt 31 = .ok (.iload_n 1, 1) := by decide +kernel
theorem d_Sy_draftRuleAt_32 : decode b_Sy_draftRuleAt 32 = .ok (.iconst 2, 1) := by decide +kernel
theorem d_Sy_draftRuleAt_33 : decode b_Sy_draftRuleAt 33 = .ok (.iadd, 1) := by decide +kernel
theorem d_Sy_draftRuleAt_34 : decode b_Sy_draftRuleAt 34 = .ok (.caload, 1) := by decide +kernel
theorem d_Sy_draftRuleAt_35 : decode b_Sy_draftRuleAt 35 = .ok (.invokevirtual 270, 3) := by decide +kernel
theorem d_Sy_draftRuleAt_38 : decode b_Sy_draftRuleAt 38 = .ok (.istore 4, 2) := by decide +kernel
theorem d_Sy_draftRuleAt_40 : decode b_Sy_draftRuleAt 40 = .ok (.aload_n 0, 1) := by decide +kernel
theorem d_Sy_draftRuleAt_41 : decode b_Sy_draftRuleAt 41 = .ok (.getfield 9, 3) := by decide +kernel
theorem d_Sy_draftRuleAt_44 : decode b_Sy_draftRuleAt 44 = .ok (.iload_n 1, 1) := by decide +kernel
theorem d_Sy_draftRuleAt_45 : decode b_Sy_draftRuleAt 45 = .ok (.iconst 3, 1) := by decide +kernel
theorem d_Sy_draftRuleAt_46 : decode b_Sy_draftRuleAt 46 = .ok (.iadd, 1) := by decide +kernel
theorem d_Sy_draftRuleAt_47 : decode b_Sy_draftRuleAt 47 = .ok (.caload, 1) := by decide +kernel
theorem d_Sy_draftRuleAt_48 : decode b_Sy_draftRuleAt 48 = .ok (.bipush 48, 2) := by decide +kernel
theorem d_Sy_draftRuleAt_50 : decode b_Sy_draftRuleAt 50 = .ok (.isub, 1) := by decide +kernel
theorem d_Sy_draftRuleAt_51 : decode b_Sy_draftRuleAt 51 = .ok (.istore 5, 2) := by decide +kernel
theorem d_Sy_draftRuleAt_53 : decode b_Sy_draftRuleAt 53 = .ok (.iload_n 2, 1) := by decide +kernel
theorem d_Sy_draftRuleAt_54 : decode b_Sy_draftRuleAt 54 = .ok (.iconst 1, 1) := by decide +kernel
theorem d_Sy_draftRuleAt_55 : decode b_Sy_draftRuleAt 55 = .ok (.if_icmp .lt 34, 3) := by decide +kernel
theorem d_Sy_draftRuleAt_58 : decode b_Sy_draftRuleAt 58 = .ok (.iload_n 2, 1) := by decide +kernel
theorem d_Sy_draftRuleAt_59 : decode b_Sy_draftRuleAt 59 = .ok (.bipush 6, 2) := by decide +kernel
theorem d_Sy_draftRuleAt_61 : decode b_Sy_draftRuleAt 61 = .ok (.if_icmp .gt 28, 3) := by decide +kernel
theorem d_Sy_draftRuleAt_64 : decode b_Sy_draftRuleAt 64 = .ok (.iload_n 3, 1) := by decide +kernel
theorem d_Sy_draftRuleAt_65 : decode b_Sy_draftRuleAt 65 = .ok (.ifCond .lt 24, 3) := by decide +kernel
theorem d_Sy_draftRuleAt_68 : decode b_Sy_draftRuleAt 68 = .ok (.iload 4, 2) := by decide +kernel
theorem d_Sy_draftRuleAt_70 : decode b_Sy_draftRuleAt 70 = .ok (.ifCond .lt 19, 3) := by decide +kernel
theorem d_Sy_draftRuleAt_73 : decode b_Sy_draftRuleAt 73 = .ok (.iload 5, 2) := by decide +kernel
theorem d_Sy_draftRuleAt_75 : decode b_Sy_draftRuleAt 75 = .ok (.ifCond .lt 14, 3) := by decide +kernel
theorem d_Sy_draftRuleAt_78 : decode b_Sy_draftRuleAt 78 = .ok (.iload 5, 2) := by decide +kernel
theorem d_Sy_draftRuleAt_80 : decode b_Sy_draftRuleAt 80 = .ok (.bipush 6, 2) := by decide +kernel
theorem d_Sy_draftRuleAt_82 : decode b_Sy_draftRuleAt 82 = .ok (.if_icmp .gt 7, 3) := by decide +kernel
theorem d_Sy_draftRuleAt_85 : decode b_Sy_draftRuleAt 85 = .ok (.iconst 1, 1) := by decide +kernel
theorem d_Sy_draftRuleAt_86 : decode b_Sy_draftRuleAt 86 = .ok (.goto 4, 3) := by decide +kernel
theorem d_Sy_draftRuleAt_89 : decode b_Sy_draftRuleAt 89 = .ok (.iconst 0, 1) := by decide +kernel
theorem d_Sy_draftRuleAt_90 : decode b_Sy_draftRuleAt 90 = .ok (.istore 6, 2) := by decide +kernel
theorem d_Sy_draftRuleAt_92 : decode b_Sy_draftRuleAt 92 = .ok (.iload 6, 2) := by decide +kernel
theorem d_Sy_draftRuleAt_94 : decode b_Sy_draftRuleAt 94 = .ok (.ifCond .eq 23, 3) := by decide +kernel
theorem d_Sy_draftRuleAt_97 : decode b_Sy_draftRuleAt 97 = .ok (.aload_n 0, 1) := by decide +kernel
theorem d_Sy_draftRuleAt_98 : decode b_Sy_draftRuleAt 98 = .ok (.getfield 16, 3) := by decide +kernel
theorem d_Sy_draftRuleAt_101 : decode b_Sy_draftRuleAt 101 = .ok (.iload_n 2, 1) := by decide +kernel
theorem d_Sy_draftRuleAt_102 : decode b_Sy_draftRuleAt 102 = .ok (.iload_n 3, 1) := by decide +kernel
theorem d_Sy_draftRuleAt_103 : decode b_Sy_draftRuleAt 103 = .ok (.iload 4, 2) := by decide +kernel
theorem d_Sy_draftRuleAt_105 : decode b_Sy_draftRuleAt 105 = .ok (.iload 5, 2) := by decide +kernel
theorem d_Sy_draftRuleAt_107 : decode b_Sy_draftRuleAt 107 = .ok (.invokevirtual 275, 3) := by decide +kernel
theorem d_Sy_draftRuleAt_110 : decode b_Sy_draftRuleAt 110 = .ok (.ifCond .eq 7, 3) := by decide +kernel
theorem d_Sy_draftRuleAt_113 : decode b_Sy_draftRuleAt 113 = .ok (.iconst 1, 1) := by decide +kernel
theorem d_Sy_draftRuleAt_114 : decode b_Sy_draftRuleAt 114 = .ok (.goto 4, 3) := by decide +kernel
theorem d_Sy_draftRuleAt_117 : decode b_Sy_draftRuleAt 117 = .ok (.iconst 0, 1) := by decide +kernel
theorem d_Sy_draftRuleAt_118 : decode b_Sy_draftRuleAt 118 = .ok (.ireturn, 1) := by decide +kernel
theorem d_Sy_leastFreeBlock_0 : decode b_Sy_leastFreeBlock 0 = .ok (.iconst 0, 1) := by decide +kernel
theorem d_Sy_leastFreeBlock_1 : decode b_Sy_leastFreeBlock 1 = .ok (.istore_n 1, 1) := by decide +kernel
theorem d_Sy_leastFreeBlock_2 : decode b_Sy_leastFreeBlock 2 = .ok (.iload_n 1, 1) := by decide +kernel
theorem d_Sy_leastFreeBlock_3 : decode b_Sy_leastFreeBlock 3 = .ok (.bipush 12, 2) := by decide +kernel
theorem d_Sy_leastFreeBlock_5 : decode b_Sy_leastFreeBlock 5 = .ok (.if_icmp .ge 21, 3) := by decide +kernel
theorem d_Sy_leastFreeBlock_8 : decode b_Sy_leastFreeBlock 8 = .ok (.aload_n 0, 1) := by decide +kernel
theorem d_Sy_leastFreeBlock_9 : decode b_Sy_leastFreeBlock 9 = .ok (.getfield 30, 3) := by decide +kernel
theorem d_Sy_leastFreeBlock_12 : decode b_Sy_leastFreeBlock 12 = .ok (.iload_n 1, 1) := by decide +kernel
theorem d_Sy_leastFreeBlock_13 : decode b_Sy_leastFreeBlock 13 = .ok (.aaload, 1) := by decide +kernel
theorem d_Sy_leastFreeBlock_14 : decode b_Sy_leastFreeBlock 14 = .ok (.invokevirtual 279, 3) := by decide +kernel
theorem d_Sy_leastFreeBlock_17 : decode b_Sy_leastFreeBlock 17 = .ok (.ifCond .ne 9, 3) := by decide +kernel
theorem d_Sy_leastFreeBlock_20 : decode b_Sy_leastFreeBlock 20 = .ok (.iinc 1 1, 3) := by decide +kernel
theorem d_Sy_leastFreeBlock_23 : decode b_Sy_leastFreeBlock 23 = .ok (.goto (-21), 3) := by decide +kernel
theorem d_Sy_leastFreeBlock_26 : decode b_Sy_leastFreeBlock 26 = .ok (.iload_n 1, 1) := by decide +kernel
theorem d_Sy_leastFreeBlock_27 : decode b_Sy_leastFreeBlock 27 = .ok (.ireturn, 1) := by decide +kernel
theorem d_Sy_leastFreeChannel_0 : decode b_Sy_leastFreeChannel 0 = .ok (.iconst 0, 1) := by decide +kernel
theorem d_Sy_leastFreeChannel_1 : decode b_Sy_leastFreeChannel 1 = .ok (.istore_n 1, 1) := by decide +kernel
theorem d_Sy_leastFreeChannel_2 : decode b_Sy_leastFreeChannel 2 = .ok (.iload_n 1, 1) := by decide +kernel
theorem d_Sy_leastFreeChannel_3 : decode b_Sy_leastFreeChannel 3 = .ok (.bipush 6, 2) := by decide +kernel
theorem d_Sy_leastFreeChannel_5 : decode b_Sy_leastFreeChannel 5 = .ok (.if_icmp .ge 39, 3) := by decide +kernel
theorem d_Sy_leastFreeChannel_8 : decode b_Sy_leastFreeChannel 8 = .ok (.aload_n 0, 1) := by decide +kernel
theorem d_Sy_leastFreeChannel_9 : decode b_Sy_leastFreeChannel 9 = .ok (.getfield 40, 3) := by decide +kernel
theorem d_Sy_leastFreeChannel_12 : decode b_Sy_leastFreeChannel 12 = .ok (.iconst 2, 1) := by decide +kernel
theorem d_Sy_leastFreeChannel_13 : decode b_Sy_leastFreeChannel 13 = .ok (.iload_n 1, 1) := by decide +kernel
theorem d_Sy_leastFreeChannel_14 : decode b_Sy_leastFreeChannel 14 = .ok (.imul, 1) := by decide +kernel
theorem d_Sy_leastFreeChannel_15 : decode b_Sy_leastFreeChannel 15 = .ok (.aaload, 1) := by decide +kernel
theorem d_Sy_leastFreeChannel_16 : decode b_Sy_leastFreeChannel 16 = .ok (.invokevirtual 173, 3) := by decide +kernel
theorem d_Sy_leastFreeChannel_19 : decode b_Sy_leastFreeChannel 19 = .ok (.ifCond .ne 19, 3) := by decide +kernel
theorem d_Sy_leastFreeChannel_22 : decode b_Sy_leastFreeChannel 22 = .ok (.aload_n 0, 1) := by decide +kernel
theorem d_Sy_leastFreeChannel_23 : decode b_Sy_leastFreeChannel 23 = .ok (.getfield 40, 3) := by decide +kernel
theorem d_Sy_leastFreeChannel_26 : decode b_Sy_leastFreeChannel 26 = .ok (.iconst 2, 1) := by decide +kernel
theorem d_Sy_leastFreeChannel_27 : decode b_Sy_leastFreeChannel 27 = .ok (.iload_n 1, 1) := by decide +kernel
theorem d_Sy_leastFreeChannel_28 : decode b_Sy_leastFreeChannel 28 = .ok (.imul, 1) := by decide +kernel
theorem d_Sy_leastFreeChannel_29 : decode b_Sy_leastFreeChannel 29 = .ok (.iconst 1, 1) := by decide +kernel
theorem d_Sy_leastFreeChannel_30 : decode b_Sy_leastFreeChannel 30 = .ok (.iadd, 1) := by decide +kernel
theorem d_Sy_leastFreeChannel_31 : decode b_Sy_leastFreeChannel 31 = .ok (.aaload, 1) := by decide +kernel
theorem d_Sy_leastFreeChannel_32 : decode b_Sy_leastFreeChannel 32 = .ok (.invokevirtual 173, 3) := by decide +kernel
theorem d_Sy_leastFreeChannel_35 : decode b_Sy_leastFreeChannel 35 = .ok (.ifCond .eq 9, 3) := by decide +kernel
theorem d_Sy_leastFreeChannel_38 : decode b_Sy_leastFreeChannel 38 = .ok (.iinc 1 1, 3) := by decide +kernel
theorem d_Sy_leastFreeChannel_41 : decode b_Sy_leastFreeChannel 41 = .ok (.goto (-39), 3) := by decide +kernel
theorem d_Sy_leastFreeChannel_44 : decode b_Sy_leastFreeChannel 44 = .ok (.iload_n 1, 1) := by decide +kernel
theorem d_Sy_leastFreeChannel_45 : decode b_Sy_leastFreeChannel 45 = .ok (.ireturn, 1) := by decide +kernel
theorem d_Sy_processesAlive_0 : decode b_Sy_processesAlive 0 = .ok (.iconst 0, 1) := by decide +kernel
theorem d_Sy_processesAlive_1 : decode b_Sy_processesAlive 1 = .ok (.istore_n 1, 1) := by decide +kernel
theorem d_Sy_processesAlive_2 : decode b_Sy_processesAlive 2 = .ok (.iconst 0, 1) := by decide +kernel
theorem d_Sy_processesAlive_3 : decode b_Sy_processesAlive 3 = .ok (.istore_n 2, 1) := by decide +kernel
theorem d_Sy_processesAlive_4 : decode b_Sy_processesAlive 4 = .ok (.iload_n 2, 1) := by decide +kernel
theorem d_Sy_processesAlive_5 : decode b_Sy_processesAlive 5 = .ok (.iconst 4, 1) := by decide +kernel
theorem d_Sy_processesAlive_6 : decode b_Sy_processesAlive 6 = .ok (.if_icmp .ge 26, 3) := by decide +kernel
theorem d_Sy_processesAlive_9 : decode b_Sy_processesAlive 9 = .ok (.iload_n 1, 1) := by decide +kernel
theorem d_Sy_processesAlive_10 : decode b_Sy_processesAlive 10 = .ok (.aload_n 0, 1) := by decide +kernel
theorem d_Sy_processesAlive_11 : decode b_Sy_processesAlive 11 = .ok (.getfield 24, 3) := by decide +kernel
theorem d_Sy_processesAlive_14 : decode b_Sy_processesAlive 14 = .ok (.iload_n 2, 1) := by decide +kernel
theorem d_Sy_processesAlive_15 : decode b_Sy_processesAlive 15 = .ok (.baload, 1) := by decide +kernel
theorem d_Sy_processesAlive_16 : decode b_Sy_processesAlive 16 = .ok (.ifCond .eq 7, 3) := by decide +kernel
theorem d_Sy_processesAlive_19 : decode b_Sy_processesAlive 19 = .ok (.iconst 1, 1) := by decide +kernel
theorem d_Sy_processesAlive_20 : decode b_Sy_processesAlive 20 = .ok (.goto 4, 3) := by decide +kernel
theorem d_Sy_processesAlive_23 : decode b_Sy_processesAlive 23 = .ok (.iconst 0, 1) := by decide +kernel
theorem d_Sy_processesAlive_24 : decode b_Sy_processesAlive 24 = .ok (.iadd, 1) := by decide +kernel
theorem d_Sy_processesAlive_25 : decode b_Sy_processesAlive 25 = .ok (.istore_n 1, 1) := by decide +kernel
theorem d_Sy_processesAlive_26 : decode b_Sy_processesAlive 26 = .ok (.iinc 2 1, 3) := by decide +kernel
theorem d_Sy_processesAlive_29 : decode b_Sy_processesAlive 29 = .ok (.goto (-25), 3) := by decide +kernel
theorem d_Sy_processesAlive_32 : decode b_Sy_processesAlive 32 = .ok (.iload_n 1, 1) := by decide +kernel
theorem d_Sy_processesAlive_33 : decode b_Sy_processesAlive 33 = .ok (.ireturn, 1) := by decide +kernel
theorem d_Sy_blocksInUse_0 : decode b_Sy_blocksInUse 0 = .ok (.iconst 0, 1) := by decide +kernel
theorem d_Sy_blocksInUse_1 : decode b_Sy_blocksInUse 1 = .ok (.istore_n 1, 1) := by decide +kernel
theorem d_Sy_blocksInUse_2 : decode b_Sy_blocksInUse 2 = .ok (.iconst 0, 1) := by decide +kernel
theorem d_Sy_blocksInUse_3 : decode b_Sy_blocksInUse 3 = .ok (.istore_n 2, 1) := by decide +kernel
theorem d_Sy_blocksInUse_4 : decode b_Sy_blocksInUse 4 = .ok (.iload_n 2, 1) := by decide +kernel
theorem d_Sy_blocksInUse_5 : decode b_Sy_blocksInUse 5 = .ok (.bipush 12, 2) := by decide +kernel
theorem d_Sy_blocksInUse_7 : decode b_Sy_blocksInUse 7 = .ok (.if_icmp .ge 29, 3) := by decide +kernel
theorem d_Sy_blocksInUse_10 : decode b_Sy_blocksInUse 10 = .ok (.iload_n 1, 1) := by decide +kernel
theorem d_Sy_blocksInUse_11 : decode b_Sy_blocksInUse 11 = .ok (.aload_n 0, 1) := by decide +kernel
theorem d_Sy_blocksInUse_12 : decode b_Sy_blocksInUse 12 = .ok (.getfield 30, 3) := by decide +kernel
theorem d_Sy_blocksInUse_15 : decode b_Sy_blocksInUse 15 = .ok (.iload_n 2, 1) := by decide +kernel
theorem d_Sy_blocksInUse_16 : decode b_Sy_blocksInUse 16 = .ok (.aaload, 1) := by decide +kernel
theorem d_Sy_blocksInUse_17 : decode b_Sy_blocksInUse 17 = .ok (.invokevirtual 279, 3) := by decide +kernel
theorem d_Sy_blocksInUse_20 : decode b_Sy_blocksInUse 20 = .ok (.ifCond .eq 7, 3) := by decide +kernel
theorem d_Sy_blocksInUse_23 : decode b_Sy_blocksInUse 23 = .ok (.iconst 0, 1) := by decide +kernel
theorem d_Sy_blocksInUse_24 : decode b_Sy_blocksInUse 24 = .ok (.goto 4, 3) := by decide +kernel
theorem d_Sy_blocksInUse_27 : decode b_Sy_blocksInUse 27 = .ok (.iconst 1, 1) := by decide +kernel
theorem d_Sy_blocksInUse_28 : decode b_Sy_blocksInUse 28 = .ok (.iadd, 1) := by decide +kernel
theorem d_Sy_blocksInUse_29 : decode b_Sy_blocksInUse 29 = .ok (.istore_n 1, 1) := by decide +kernel
theorem d_Sy_blocksInUse_30 : decode b_Sy_blocksInUse 30 = .ok (.iinc 2 1, 3) := by decide +kernel
theorem d_Sy_blocksInUse_33 : decode b_Sy_blocksInUse 33 = .ok (.goto (-29), 3) := by decide +kernel
theorem d_Sy_blocksInUse_36 : decode b_Sy_blocksInUse 36 = .ok (.iload_n 1, 1) := by decide +kernel
theorem d_Sy_blocksInUse_37 : decode b_Sy_blocksInUse 37 = .ok (.ireturn, 1) := by decide +kernel
theorem d_Sy_cellsInUse_0 : decode b_Sy_cellsInUse 0 = .ok (.iconst 0, 1) := by decide +kernel
theorem d_Sy_cellsInUse_1 : decode b_Sy_cellsInUse 1 = .ok (.istore_n 1, 1) := by decide +kernel
theorem d_Sy_cellsInUse_2 : decode b_Sy_cellsInUse 2 = .ok (.iconst 0, 1) := by decide +kernel
theorem d_Sy_cellsInUse_3 : decode b_Sy_cellsInUse 3 = .ok (.istore_n 2, 1) := by decide +kernel
theorem d_Sy_cellsInUse_4 : decode b_Sy_cellsInUse 4 = .ok (.iload_n 2, 1) := by decide +kernel
theorem d_Sy_cellsInUse_5 : decode b_Sy_cellsInUse 5 = .ok (.bipush 12, 2) := by decide +kernel
theorem d_Sy_cellsInUse_7 : decode b_Sy_cellsInUse 7 = .ok (.if_icmp .ge 21, 3) := by decide +kernel
theorem d_Sy_cellsInUse_10 : decode b_Sy_cellsInUse 10 = .ok (.iload_n 1, 1) := by decide +kernel
theorem d_Sy_cellsInUse_11 : decode b_Sy_cellsInUse 11 = .ok (.aload_n 0, 1) := by decide +kernel
theorem d_Sy_cellsInUse_12 : decode b_Sy_cellsInUse 12 = .ok (.getfield 30, 3) := by decide +kernel
theorem d_Sy_cellsInUse_15 : decode b_Sy_cellsInUse 15 = .ok (.iload_n 2, 1) := by decide +kernel
theorem d_Sy_cellsInUse_16 : decode b_Sy_cellsInUse 16 = .ok (.aaload, 1) := by decide +kernel
theorem d_Sy_cellsInUse_17 : decode b_Sy_cellsInUse 17 = .ok (.getfield 211, 3) := by decide +kernel
theorem d_Sy_cellsInUse_20 : decode b_Sy_cellsInUse 20 = .ok (.iadd, 1) := by decide +kernel
theorem d_Sy_cellsInUse_21 : decode b_Sy_cellsInUse 21 = .ok (.istore_n 1, 1) := by decide +kernel
theorem d_Sy_cellsInUse_22 : decode b_Sy_cellsInUse 22 = .ok (.iinc 2 1, 3) := by decide +kernel
theorem d_Sy_cellsInUse_25 : decode b_Sy_cellsInUse 25 = .ok (.goto (-21), 3) := by decide +kernel
theorem d_Sy_cellsInUse_28 : decode b_Sy_cellsInUse 28 = .ok (.iload_n 1, 1) := by decide +kernel
theorem d_Sy_cellsInUse_29 : decode b_Sy_cellsInUse 29 = .ok (.ireturn, 1) := by decide +kernel
theorem d_Sy_endsOpen_0 : decode b_Sy_endsOpen 0 = .ok (.iconst 0, 1) := by decide +kernel
theorem d_Sy_endsOpen_1 : decode b_Sy_endsOpen 1 = .ok (.istore_n 1, 1) := by decide +kernel
theorem d_Sy_endsOpen_2 : decode b_Sy_endsOpen 2 = .ok (.iconst 0, 1) := by decide +kernel
theorem d_Sy_endsOpen_3 : decode b_Sy_endsOpen 3 = .ok (.istore_n 2, 1) := by decide +kernel
theorem d_Sy_endsOpen_4 : decode b_Sy_endsOpen 4 = .ok (.iload_n 2, 1) := by decide +kernel
theorem d_Sy_endsOpen_5 : decode b_Sy_endsOpen 5 = .ok (.bipush 12, 2) := by decide +kernel
theorem d_Sy_endsOpen_7 : decode b_Sy_endsOpen 7 = .ok (.if_icmp .ge 29, 3) := by decide +kernel
theorem d_Sy_endsOpen_10 : decode b_Sy_endsOpen 10 = .ok (.iload_n 1, 1) := by decide +kernel
theorem d_Sy_endsOpen_11 : decode b_Sy_endsOpen 11 = .ok (.aload_n 0, 1) := by decide +kernel
theorem d_Sy_endsOpen_12 : decode b_Sy_endsOpen 12 = .ok (.getfield 40, 3) := by decide +kernel
theorem d_Sy_endsOpen_15 : decode b_Sy_endsOpen 15 = .ok (.iload_n 2, 1) := by decide +kernel
theorem d_Sy_endsOpen_16 : decode b_Sy_endsOpen 16 = .ok (.aaload, 1) := by decide +kernel
theorem d_Sy_endsOpen_17 : decode b_Sy_endsOpen 17 = .ok (.invokevirtual 173, 3) := by decide +kernel
theorem d_Sy_endsOpen_20 : decode b_Sy_endsOpen 20 = .ok (.ifCond .eq 7, 3) := by decide +kernel
theorem d_Sy_endsOpen_23 : decode b_Sy_endsOpen 23 = .ok (.iconst 1, 1) := by decide +kernel
theorem d_Sy_endsOpen_24 : decode b_Sy_endsOpen 24 = .ok (.goto 4, 3) := by decide +kernel
theorem d_Sy_endsOpen_27 : decode b_Sy_endsOpen 27 = .ok (.iconst 0, 1) := by decide +kernel
theorem d_Sy_endsOpen_28 : decode b_Sy_endsOpen 28 = .ok (.iadd, 1) := by decide +kernel
theorem d_Sy_endsOpen_29 : decode b_Sy_endsOpen 29 = .ok (.istore_n 1, 1) := by decide +kernel
theorem d_Sy_endsOpen_30 : decode b_Sy_endsOpen 30 = .ok (.iinc 2 1, 3) := by decide +kernel
theorem d_Sy_endsOpen_33 : decode b_Sy_endsOpen 33 = .ok (.goto (-29), 3) := by decide +kernel
theorem d_Sy_endsOpen_36 : decode b_Sy_endsOpen 36 = .ok (.iload_n 1, 1) := by decide +kernel
theorem d_Sy_endsOpen_37 : decode b_Sy_endsOpen 37 = .ok (.ireturn, 1) := by decide +kernel
theorem d_Sy_messagesWaiting_0 : decode b_Sy_messagesWaiting 0 = .ok (.iconst 0, 1) := by decide +kernel
theorem d_Sy_messagesWaiting_1 : decode b_Sy_messagesWaiting 1 = .ok (.istore_n 1, 1) := by decide +kernel
theorem d_Sy_messagesWaiting_2 : decode b_Sy_messagesWaiting 2 = .ok (.iconst 0, 1) := by decide +kernel
theorem d_Sy_messagesWaiting_3 : decode b_Sy_messagesWaiting 3 = .ok (.istore_n 2, 1) := by decide +kernel
theorem d_Sy_messagesWaiting_4 : decode b_Sy_messagesWaiting 4 = .ok (.iload_n 2, 1) := by decide +kernel
theorem d_Sy_messagesWaiting_5 : decode b_Sy_messagesWaiting 5 = .ok (.bipush 12, 2) := by decide +kernel
theorem d_Sy_messagesWaiting_7 : decode b_Sy_messagesWaiting 7 = .ok (.if_icmp .ge 21, 3) := by decide +kernel
theorem d_Sy_messagesWaiting_10 : decode b_Sy_messagesWaiting 10 = .ok (.iload_n 1, 1) := by decide +kernel
theorem d_Sy_messagesWaiting_11 : decode b_Sy_messagesWaiting 11 = .ok (.aload_n 0, 1) := by decide +kernel
theorem d_Sy_messagesWaiting_12 : decode b_Sy_messagesWaiting 12 = .ok (.getfield 40, 3) := by decide +kernel
theorem d_Sy_messagesWaiting_15 : decode b_Sy_messagesWaiting 15 = .ok (.iload_n 2, 1) := by decide +kernel
theorem d_Sy_messagesWaiting_16 : decode b_Sy_messagesWaiting 16 = .ok (.aaload, 1) := by decide +kernel
theorem d_Sy_messagesWaiting_17 : decode b_Sy_messagesWaiting 17 = .ok (.getfield 178, 3) := by decide +kernel
theorem d_Sy_messagesWaiting_20 : decode b_Sy_messagesWaiting 20 = .ok (.iadd, 1) := by decide +kernel
theorem d_Sy_messagesWaiting_21 : decode b_Sy_messagesWaiting 21 = .ok (.istore_n 1, 1) := by decide +kernel
theorem d_Sy_messagesWaiting_22 : decode b_Sy_messagesWaiting 22 = .ok (.iinc 2 1, 3) := by decide +kernel
theorem d_Sy_messagesWaiting_25 : decode b_Sy_messagesWaiting 25 = .ok (.goto (-21), 3) := by decide +kernel
theorem d_Sy_messagesWaiting_28 : decode b_Sy_messagesWaiting 28 = .ok (.iload_n 1, 1) := by decide +kernel
theorem d_Sy_messagesWaiting_29 : decode b_Sy_messagesWaiting 29 = .ok (.ireturn, 1) := by decide +kernel
theorem d_Sy_contractsMade_0 : decode b_Sy_contractsMade 0 = .ok (.iconst 0, 1) := by decide +kernel
theorem d_Sy_contractsMade_1 : decode b_Sy_contractsMade 1 = .ok (.istore_n 1, 1) := by decide +kernel
theorem d_Sy_contractsMade_2 : decode b_Sy_contractsMade 2 = .ok (.iconst 0, 1) := by decide +kernel
theorem d_Sy_contractsMade_3 : decode b_Sy_contractsMade 3 = .ok (.istore_n 2, 1) := by decide +kernel
theorem d_Sy_contractsMade_4 : decode b_Sy_contractsMade 4 = .ok (.iload_n 2, 1) := by decide +kernel
theorem d_Sy_contractsMade_5 : decode b_Sy_contractsMade 5 = .ok (.iconst 4, 1) := by decide +kernel
theorem d_Sy_contractsMade_6 : decode b_Sy_contractsMade 6 = .ok (.if_icmp .ge 29, 3) := by decide +kernel
theorem d_Sy_contractsMade_9 : decode b_Sy_contractsMade 9 = .ok (.iload_n 1, 1) := by decide +kernel
theorem d_Sy_contractsMade_10 : decode b_Sy_contractsMade 10 = .ok (.aload_n 0, 1) := by decide +kernel
theorem d_Sy_contractsMade_11 : decode b_Sy_contractsMade 11 = .ok (.getfield 20, 3) := by decide +kernel
theorem d_Sy_contractsMade_14 : decode b_Sy_contractsMade 14 = .ok (.iload_n 2, 1) := by decide +kernel
theorem d_Sy_contractsMade_15 : decode b_Sy_contractsMade 15 = .ok (.aaload, 1) := by decide +kernel
theorem d_Sy_contractsMade_16 : decode b_Sy_contractsMade 16 = .ok (.invokevirtual 126, 3) := by decide +kernel
theorem d_Sy_contractsMade_19 : decode b_Sy_contractsMade 19 = .ok (.ifCond .eq 7, 3) := by decide +kernel
theorem d_Sy_contractsMade_22 : decode b_Sy_contractsMade 22 = .ok (.iconst 0, 1) := by decide +kernel
theorem d_Sy_contractsMade_23 : decode b_Sy_contractsMade 23 = .ok (.goto 4, 3) := by decide +kernel
theorem d_Sy_contractsMade_26 : decode b_Sy_contractsMade 26 = .ok (.iconst 1, 1) := by decide +kernel
theorem d_Sy_contractsMade_27 : decode b_Sy_contractsMade 27 = .ok (.iadd, 1) := by decide +kernel
theorem d_Sy_contractsMade_28 : decode b_Sy_contractsMade 28 = .ok (.istore_n 1, 1) := by decide +kernel
theorem d_Sy_contractsMade_29 : decode b_Sy_contractsMade 29 = .ok (.iinc 2 1, 3) := by decide +kernel
theorem d_Sy_contractsMade_32 : decode b_Sy_contractsMade 32 = .ok (.goto (-28), 3) := by decide +kernel
theorem d_Sy_contractsMade_35 : decode b_Sy_contractsMade 35 = .ok (.iload_n 1, 1) := by decide +kernel
theorem d_Sy_contractsMade_36 : decode b_Sy_contractsMade 36 = .ok (.ireturn, 1) := by decide +kernel
