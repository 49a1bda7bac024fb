theorem d_Bl_init_0 : decode b_Bl_init 0 = .ok (.aload_n 0, 1) := by decide +kernel
theorem d_Bl_init_1 : decode b_Bl_init 1 = .ok (.invokespecial 3, 3) := by decide +kernel
theorem d_Bl_init_4 : decode b_Bl_init 4 = .ok (.aload_n 0, 1) := by decide +kernel
theorem d_Bl_init_5 : decode b_Bl_init 5 = .ok (.bipush 8, 2) := by decide +kernel
theorem d_Bl_init_7 : decode b_Bl_init 7 = .ok (.newarray .int, 2) := by decide +kernel
theorem d_Bl_init_9 : decode b_Bl_init 9 = .ok (.putfield 9, 3) := by decide +kernel
theorem d_Bl_init_12 : decode b_Bl_init 12 = .ok (.aload_n 0, 1) := by decide +kernel
theorem d_Bl_init_13 : decode b_Bl_init 13 = .ok (.iconst (-1), 1) := by decide +kernel
theorem d_Bl_init_14 : decode b_Bl_init 14 = .ok (.putfield 15, 3) := by decide +kernel
theorem d_Bl_init_17 : decode b_Bl_init 17 = .ok (.return_, 1) := by decide +kernel
theorem d_Bl_isFree_0 : decode b_Bl_isFree 0 = .ok (.aload_n 0, 1) := by decide +kernel
theorem d_Bl_isFree_1 : decode b_Bl_isFree 1 = .ok (.getfield 15, 3) := by decide +kernel
theorem d_Bl_isFree_4 : decode b_Bl_isFree 4 = .ok (.iconst (-1), 1) := by decide +kernel
theorem d_Bl_isFree_5 : decode b_Bl_isFree 5 = .ok (.if_icmp .ne 7, 3) := by decide +kernel
theorem d_Bl_isFree_8 : decode b_Bl_isFree 8 = .ok (.iconst 1, 1) := by decide +kernel
theorem d_Bl_isFree_9 : decode b_Bl_isFree 9 = .ok (.goto 4, 3) := by decide +kernel
theorem d_Bl_isFree_12 : decode b_Bl_isFree 12 = .ok (.iconst 0, 1) := by decide +kernel
theorem d_Bl_isFree_13 : decode b_Bl_isFree 13 = .ok (.ireturn, 1) := by decide +kernel
theorem d_Bl_handOut_0 : decode b_Bl_handOut 0 = .ok (.aload_n 0, 1) := by decide +kernel
theorem d_Bl_handOut_1 : decode b_Bl_handOut 1 = .ok (.iload_n 1, 1) := by decide +kernel
theorem d_Bl_handOut_2 : decode b_Bl_handOut 2 = .ok (.putfield 15, 3) := by decide +kernel
theorem d_Bl_handOut_5 : decode b_Bl_handOut 5 = .ok (.aload_n 0, 1) := by decide +kernel
theorem d_Bl_handOut_6 : decode b_Bl_handOut 6 = .ok (.iload_n 2, 1) := by decide +kernel
theorem d_Bl_handOut_7 : decode b_Bl_handOut 7 = .ok (.putfield 19, 3) := by decide +kernel
theorem d_Bl_handOut_10 : decode b_Bl_handOut 10 = .ok (.aload_n 0, 1) := by decide +kernel
theorem d_Bl_handOut_11 : decode b_Bl_handOut 11 = .ok (.getfield 9, 3) := by decide +kernel
theorem d_Bl_handOut_14 : decode b_Bl_handOut 14 = .ok (.iconst 0, 1) := by decide +kernel
theorem d_Bl_handOut_15 : decode b_Bl_handOut 15 = .ok (.invokestatic 22, 3) := by decide +kernel
theorem d_Bl_handOut_18 : decode b_Bl_handOut 18 = .ok (.return_, 1) := by decide +kernel
theorem d_Bl_giveBack_0 : decode b_Bl_giveBack 0 = .ok (.aload_n 0, 1) := by decide +kernel
theorem d_Bl_giveBack_1 : decode b_Bl_giveBack 1 = .ok (.iconst (-1), 1) := by decide +kernel
theorem d_Bl_giveBack_2 : decode b_Bl_giveBack 2 = .ok (.putfield 15, 3) := by decide +kernel
theorem d_Bl_giveBack_5 : decode b_Bl_giveBack 5 = .ok (.aload_n 0, 1) := by decide +kernel
theorem d_Bl_giveBack_6 : decode b_Bl_giveBack 6 = .ok (.iconst 0, 1) := by decide +kernel
theorem d_Bl_giveBack_7 : decode b_Bl_giveBack 7 = .ok (.putfield 19, 3) := by decide +kernel
theorem d_Bl_giveBack_10 : decode b_Bl_giveBack 10 = .ok (.return_, 1) := by decide +kernel
