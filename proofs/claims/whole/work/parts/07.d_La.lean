theorem d_La_type_0 : decode b_La_type 0 = .ok (.aload_n 3, 1) := by decide +kernel
theorem d_La_type_1 : decode b_La_type 1 = .ok (.iconst 0, 1) := by decide +kernel
theorem d_La_type_2 : decode b_La_type 2 = .ok (.aload_n 0, 1) := by decide +kernel
theorem d_La_type_3 : decode b_La_type 3 = .ok (.lload_n 1, 1) := by decide +kernel
theorem d_La_type_4 : decode b_La_type 4 = .ok (.invokevirtual 7, 3) := by decide +kernel
theorem d_La_type_7 : decode b_La_type 7 = .ok (.i2l, 1) := by decide +kernel
theorem d_La_type_8 : decode b_La_type 8 = .ok (.lastore, 1) := by decide +kernel
theorem d_La_type_9 : decode b_La_type 9 = .ok (.goto 11, 3) := by decide +kernel
theorem d_La_type_12 : decode b_La_type 12 = .ok (.astore 4, 2) := by decide +kernel
theorem d_La_type_14 : decode b_La_type 14 = .ok (.iconst 1, 1) := by decide +kernel
theorem d_La_type_15 : decode b_La_type 15 = .ok (.ireturn, 1) := by decide +kernel
theorem d_La_type_16 : decode b_La_type 16 = .ok (.astore 4, 2) := by decide +kernel
theorem d_La_type_18 : decode b_La_type 18 = .ok (.iconst 2, 1) := by decide +kernel
theorem d_La_type_19 : decode b_La_type 19 = .ok (.ireturn, 1) := by decide +kernel
theorem d_La_type_20 : decode b_La_type 20 = .ok (.iconst 0, 1) := by decide +kernel
theorem d_La_type_21 : decode b_La_type 21 = .ok (.ireturn, 1) := by decide +kernel
theorem d_La_contract_0 : decode b_La_contract 0 = .ok (.aload_n 2, 1) := by decide +kernel
theorem d_La_contract_1 : decode b_La_contract 1 = .ok (.iconst 0, 1) := by decide +kernel
theorem d_La_contract_2 : decode b_La_contract 2 = .ok (.aload_n 0, 1) := by decide +kernel
theorem d_La_contract_3 : decode b_La_contract 3 = .ok (.iload_n 1, 1) := by decide +kernel
theorem d_La_contract_4 : decode b_La_contract 4 = .ok (.invokevirtual 17, 3) := by decide +kernel
theorem d_La_contract_7 : decode b_La_contract 7 = .ok (.i2l, 1) := by decide +kernel
theorem d_La_contract_8 : decode b_La_contract 8 = .ok (.lastore, 1) := by decide +kernel
theorem d_La_contract_9 : decode b_La_contract 9 = .ok (.goto 6, 3) := by decide +kernel
theorem d_La_contract_12 : decode b_La_contract 12 = .ok (.astore_n 3, 1) := by decide +kernel
theorem d_La_contract_13 : decode b_La_contract 13 = .ok (.iconst 1, 1) := by decide +kernel
theorem d_La_contract_14 : decode b_La_contract 14 = .ok (.ireturn, 1) := by decide +kernel
theorem d_La_contract_15 : decode b_La_contract 15 = .ok (.iconst 0, 1) := by decide +kernel
theorem d_La_contract_16 : decode b_La_contract 16 = .ok (.ireturn, 1) := by decide +kernel
theorem d_La_start_0 : decode b_La_start 0 = .ok (.aload_n 1, 1) := by decide +kernel
theorem d_La_start_1 : decode b_La_start 1 = .ok (.iconst 0, 1) := by decide +kernel
theorem d_La_start_2 : decode b_La_start 2 = .ok (.aload_n 0, 1) := by decide +kernel
theorem d_La_start_3 : decode b_La_start 3 = .ok (.invokevirtual 21, 3) := by decide +kernel
theorem d_La_start_6 : decode b_La_start 6 = .ok (.i2l, 1) := by decide +kernel
theorem d_La_start_7 : decode b_La_start 7 = .ok (.lastore, 1) := by decide +kernel
theorem d_La_start_8 : decode b_La_start 8 = .ok (.goto 6, 3) := by decide +kernel
theorem d_La_start_11 : decode b_La_start 11 = .ok (.astore_n 2, 1) := by decide +kernel
theorem d_La_start_12 : decode b_La_start 12 = .ok (.iconst 1, 1) := by decide +kernel
theorem d_La_start_13 : decode b_La_start 13 = .ok (.ireturn, 1) := by decide +kernel
theorem d_La_start_14 : decode b_La_start 14 = .ok (.iconst 0, 1) := by decide +kernel
theorem d_La_start_15 : decode b_La_start 15 = .ok (.ireturn, 1) := by decide +kernel
theorem d_La_kill_0 : decode b_La_kill 0 = .ok (.aload_n 2, 1) := by decide +kernel
theorem d_La_kill_1 : decode b_La_kill 1 = .ok (.iconst 0, 1) := by decide +kernel
theorem d_La_kill_2 : decode b_La_kill 2 = .ok (.aload_n 0, 1) := by decide +kernel
theorem d_La_kill_3 : decode b_La_kill 3 = .ok (.iload_n 1, 1) := by decide +kernel
theorem d_La_kill_4 : decode b_La_kill 4 = .ok (.invokevirtual 25, 3) := by decide +kernel
theorem d_La_kill_7 : decode b_La_kill 7 = .ok (.i2l, 1) := by decide +kernel
theorem d_La_kill_8 : decode b_La_kill 8 = .ok (.lastore, 1) := by decide +kernel
theorem d_La_kill_9 : decode b_La_kill 9 = .ok (.goto 9, 3) := by decide +kernel
theorem d_La_kill_12 : decode b_La_kill 12 = .ok (.astore_n 3, 1) := by decide +kernel
theorem d_La_kill_13 : decode b_La_kill 13 = .ok (.iconst 1, 1) := by decide +kernel
theorem d_La_kill_14 : decode b_La_kill 14 = .ok (.ireturn, 1) := by decide +kernel
theorem d_La_kill_15 : decode b_La_kill 15 = .ok (.astore_n 3, 1) := by decide +kernel
theorem d_La_kill_16 : decode b_La_kill 16 = .ok (.iconst 2, 1) := by decide +kernel
theorem d_La_kill_17 : decode b_La_kill 17 = .ok (.ireturn, 1) := by decide +kernel
theorem d_La_kill_18 : decode b_La_kill 18 = .ok (.iconst 0, 1) := by decide +kernel
theorem d_La_kill_19 : decode b_La_kill 19 = .ok (.ireturn, 1) := by decide +kernel
theorem d_La_block_0 : decode b_La_block 0 = .ok (.aload_n 3, 1) := by decide +kernel
theorem d_La_block_1 : decode b_La_block 1 = .ok (.iconst 0, 1) := by decide +kernel
theorem d_La_block_2 : decode b_La_block 2 = .ok (.aload_n 0, 1) := by decide +kernel
theorem d_La_block_3 : decode b_La_block 3 = .ok (.iload_n 1, 1) := by decide +kernel
theorem d_La_block_4 : decode b_La_block 4 = .ok (.iload_n 2, 1) := by decide +kernel
theorem d_La_block_5 : decode b_La_block 5 = .ok (.invokevirtual 30, 3) := by decide +kernel
theorem d_La_block_8 : decode b_La_block 8 = .ok (.i2l, 1) := by decide +kernel
theorem d_La_block_9 : decode b_La_block 9 = .ok (.lastore, 1) := by decide +kernel
theorem d_La_block_10 : decode b_La_block 10 = .ok (.goto 15, 3) := by decide +kernel
theorem d_La_block_13 : decode b_La_block 13 = .ok (.astore 4, 2) := by decide +kernel
theorem d_La_block_15 : decode b_La_block 15 = .ok (.iconst 1, 1) := by decide +kernel
theorem d_La_block_16 : decode b_La_block 16 = .ok (.ireturn, 1) := by decide +kernel
theorem d_La_block_17 : decode b_La_block 17 = .ok (.astore 4, 2) := by decide +kernel
theorem d_La_block_19 : decode b_La_block 19 = .ok (.iconst 2, 1) := by decide +kernel
theorem d_La_block_20 : decode b_La_block 20 = .ok (.ireturn, 1) := by decide +kernel
theorem d_La_block_21 : decode b_La_block 21 = .ok (.astore 4, 2) := by decide +kernel
theorem d_La_block_23 : decode b_La_block 23 = .ok (.iconst 3, 1) := by decide +kernel
theorem d_La_block_24 : decode b_La_block 24 = .ok (.ireturn, 1) := by decide +kernel
theorem d_La_block_25 : decode b_La_block 25 = .ok (.iconst 0, 1) := by decide +kernel
theorem d_La_block_26 : decode b_La_block 26 = .ok (.ireturn, 1) := by decide +kernel
theorem d_La_free_0 : decode b_La_free 0 = .ok (.aload_n 0, 1) := by decide +kernel
theorem d_La_free_1 : decode b_La_free 1 = .ok (.iload_n 1, 1) := by decide +kernel
theorem d_La_free_2 : decode b_La_free 2 = .ok (.iload_n 2, 1) := by decide +kernel
theorem d_La_free_3 : decode b_La_free 3 = .ok (.invokevirtual 34, 3) := by decide +kernel
theorem d_La_free_6 : decode b_La_free 6 = .ok (.goto 9, 3) := by decide +kernel
theorem d_La_free_9 : decode b_La_free 9 = .ok (.astore_n 3, 1) := by decide +kernel
theorem d_La_free_10 : decode b_La_free 10 = .ok (.iconst 1, 1) := by decide +kernel
theorem d_La_free_11 : decode b_La_free 11 = .ok (.ireturn, 1) := by decide +kernel
theorem d_La_free_12 : decode b_La_free 12 = .ok (.astore_n 3, 1) := by decide +kernel
theorem d_La_free_13 : decode b_La_free 13 = .ok (.iconst 2, 1) := by decide +kernel
theorem d_La_free_14 : decode b_La_free 14 = .ok (.ireturn, 1) := by decide +kernel
theorem d_La_free_15 : decode b_La_free 15 = .ok (.iconst 0, 1) := by decide +kernel
theorem d_La_free_16 : decode b_La_free 16 = .ok (.ireturn, 1) := by decide +kernel
theorem d_La_read_0 : decode b_La_read 0 = .ok (.aload 4, 2) := by decide +kernel
theorem d_La_read_2 : decode b_La_read 2 = .ok (.iconst 0, 1) := by decide +kernel
theorem d_La_read_3 : decode b_La_read 3 = .ok (.aload_n 0, 1) := by decide +kernel
theorem d_La_read_4 : decode b_La_read 4 = .ok (.iload_n 1, 1) := by decide +kernel
theorem d_La_read_5 : decode b_La_read 5 = .ok (.iload_n 2, 1) := by decide +kernel
theorem d_La_read_6 : decode b_La_read 6 = .ok (.iload_n 3, 1) := by decide +kernel
theorem d_La_read_7 : decode b_La_read 7 = .ok (.invokevirtual 38, 3) := by decide +kernel
theorem d_La_read_10 : decode b_La_read 10 = .ok (.i2l, 1) := by decide +kernel
theorem d_La_read_11 : decode b_La_read 11 = .ok (.lastore, 1) := by decide +kernel
theorem d_La_read_12 : decode b_La_read 12 = .ok (.goto 15, 3) := by decide +kernel
theorem d_La_read_15 : decode b_La_read 15 = .ok (.astore 5, 2) := by decide +kernel
theorem d_La_read_17 : decode b_La_read 17 = .ok (.iconst 1, 1) := by decide +kernel
theorem d_La_read_18 : decode b_La_read 18 = .ok (.ireturn, 1) := by decide +kernel
theorem d_La_read_19 : decode b_La_read 19 = .ok (.astore 5, 2) := by decide +kernel
theorem d_La_read_21 : decode b_La_read 21 = .ok (.iconst 2, 1) := by decide +kernel
theorem d_La_read_22 : decode b_La_read 22 = .ok (.ireturn, 1) := by decide +kernel
theorem d_La_read_23 : decode b_La_read 23 = .ok (.astore 5, 2) := by decide +kernel
theorem d_La_read_25 : decode b_La_read 25 = .ok (.iconst 3, 1) := by decide +kernel
theorem d_La_read_26 : decode b_La_read 26 = .ok (.ireturn, 1) := by decide +kernel
theorem d_La_read_27 : decode b_La_read 27 = .ok (.iconst 0, 1) := by decide +kernel
theorem d_La_read_28 : decode b_La_read 28 = .ok (.ireturn, 1) := by decide +kernel
theorem d_La_write_0 : decode b_La_write 0 = .ok (.aload_n 0, 1) := by decide +kernel
theorem d_La_write_1 : decode b_La_write 1 = .ok (.iload_n 1, 1) := by decide +kernel
theorem d_La_write_2 : decode b_La_write 2 = .ok (.iload_n 2, 1) := by decide +kernel
theorem d_La_write_3 : decode b_La_write 3 = .ok (.iload_n 3, 1) := by decide +kernel
theorem d_La_write_4 : decode b_La_write 4 = .ok (.iload 4, 2) := by decide +kernel
theorem d_La_write_6 : decode b_La_write 6 = .ok (.invokevirtual 44, 3) := by decide +kernel
theorem d_La_write_9 : decode b_La_write 9 = .ok (.goto 15, 3) := by decide +kernel
theorem d_La_write_12 : decode b_La_write 12 = .ok (.astore 5, 2) := by decide +kernel
theorem d_La_write_14 : decode b_La_write 14 = .ok (.iconst 1, 1) := by decide +kernel
theorem d_La_write_15 : decode b_La_write 15 = .ok (.ireturn, 1) := by decide +kernel
theorem d_La_write_16 : decode b_La_write 16 = .ok (.astore 5, 2) := by decide +kernel
theorem d_La_write_18 : decode b_La_write 18 = .ok (.iconst 2, 1) := by decide +kernel
theorem d_La_write_19 : decode b_La_write 19 = .ok (.ireturn, 1) := by decide +kernel
theorem d_La_write_20 : decode b_La_write 20 = .ok (.astore 5, 2) := by decide +kernel
theorem d_La_write_22 : decode b_La_write 22 = .ok (.iconst 3, 1) := by decide +kernel
theorem d_La_write_23 : decode b_La_write 23 = .ok (.ireturn, 1) := by decide +kernel
theorem d_La_write_24 : decode b_La_write 24 = .ok (.iconst 0, 1) := by decide +kernel
theorem d_La_write_25 : decode b_La_write 25 = .ok (.ireturn, 1) := by decide +kernel
theorem d_La_open_0 : decode b_La_open 0 = .ok (.aload 4, 2) := by decide +kernel
theorem d_La_open_2 : decode b_La_open 2 = .ok (.iconst 0, 1) := by decide +kernel
theorem d_La_open_3 : decode b_La_open 3 = .ok (.aload_n 0, 1) := by decide +kernel
theorem d_La_open_4 : decode b_La_open 4 = .ok (.iload_n 1, 1) := by decide +kernel
theorem d_La_open_5 : decode b_La_open 5 = .ok (.iload_n 2, 1) := by decide +kernel
theorem d_La_open_6 : decode b_La_open 6 = .ok (.iload_n 3, 1) := by decide +kernel
theorem d_La_open_7 : decode b_La_open 7 = .ok (.invokevirtual 48, 3) := by decide +kernel
theorem d_La_open_10 : decode b_La_open 10 = .ok (.i2l, 1) := by decide +kernel
theorem d_La_open_11 : decode b_La_open 11 = .ok (.lastore, 1) := by decide +kernel
theorem d_La_open_12 : decode b_La_open 12 = .ok (.goto 19, 3) := by decide +kernel
theorem d_La_open_15 : decode b_La_open 15 = .ok (.astore 5, 2) := by decide +kernel
theorem d_La_open_17 : decode b_La_open 17 = .ok (.iconst 1, 1) := by decide +kernel
theorem d_La_open_18 : decode b_La_open 18 = .ok (.ireturn, 1) := by decide +kernel
theorem d_La_open_19 : decode b_La_open 19 = .ok (.astore 5, 2) := by decide +kernel
theorem d_La_open_21 : decode b_La_open 21 = .ok (.iconst 2, 1) := by decide +kernel
theorem d_La_open_22 : decode b_La_open 22 = .ok (.ireturn, 1) := by decide +kernel
theorem d_La_open_23 : decode b_La_open 23 = .ok (.astore 5, 2) := by decide +kernel
theorem d_La_open_25 : decode b_La_open 25 = .ok (.iconst 3, 1) := by decide +kernel
theorem d_La_open_26 : decode b_La_open 26 = .ok (.ireturn, 1) := by decide +kernel
theorem d_La_open_27 : decode b_La_open 27 = .ok (.astore 5, 2) := by decide +kernel
theorem d_La_open_29 : decode b_La_open 29 = .ok (.iconst 4, 1) := by decide +kernel
theorem d_La_open_30 : decode b_La_open 30 = .ok (.ireturn, 1) := by decide +kernel
theorem d_La_open_31 : decode b_La_open 31 = .ok (.iconst 0, 1) := by decide +kernel
theorem d_La_open_32 : decode b_La_open 32 = .ok (.ireturn, 1) := by decide +kernel
theorem d_La_say_0 : decode b_La_say 0 = .ok (.aload_n 0, 1) := by decide +kernel
theorem d_La_say_1 : decode b_La_say 1 = .ok (.iload_n 1, 1) := by decide +kernel
theorem d_La_say_2 : decode b_La_say 2 = .ok (.iload_n 2, 1) := by decide +kernel
theorem d_La_say_3 : decode b_La_say 3 = .ok (.iload_n 3, 1) := by decide +kernel
theorem d_La_say_4 : decode b_La_say 4 = .ok (.iload 4, 2) := by decide +kernel
theorem d_La_say_6 : decode b_La_say 6 = .ok (.invokevirtual 51, 3) := by decide +kernel
theorem d_La_say_9 : decode b_La_say 9 = .ok (.goto 15, 3) := by decide +kernel
theorem d_La_say_12 : decode b_La_say 12 = .ok (.astore 5, 2) := by decide +kernel
theorem d_La_say_14 : decode b_La_say 14 = .ok (.iconst 1, 1) := by decide +kernel
theorem d_La_say_15 : decode b_La_say 15 = .ok (.ireturn, 1) := by decide +kernel
theorem d_La_say_16 : decode b_La_say 16 = .ok (.astore 5, 2) := by decide +kernel
theorem d_La_say_18 : decode b_La_say 18 = .ok (.iconst 2, 1) := by decide +kernel
theorem d_La_say_19 : decode b_La_say 19 = .ok (.ireturn, 1) := by decide +kernel
theorem d_La_say_20 : decode b_La_say 20 = .ok (.astore 5, 2) := by decide +kernel
theorem d_La_say_22 : decode b_La_say 22 = .ok (.iconst 3, 1) := by decide +kernel
theorem d_La_say_23 : decode b_La_say 23 = .ok (.ireturn, 1) := by decide +kernel
theorem d_La_say_24 : decode b_La_say 24 = .ok (.iconst 0, 1) := by decide +kernel
theorem d_La_say_25 : decode b_La_say 25 = .ok (.ireturn, 1) := by decide +kernel
theorem d_La_hear_0 : decode b_La_hear 0 = .ok (.aload_n 3, 1) := by decide +kernel
theorem d_La_hear_1 : decode b_La_hear 1 = .ok (.iconst 0, 1) := by decide +kernel
theorem d_La_hear_2 : decode b_La_hear 2 = .ok (.aload_n 0, 1) := by decide +kernel
theorem d_La_hear_3 : decode b_La_hear 3 = .ok (.iload_n 1, 1) := by decide +kernel
theorem d_La_hear_4 : decode b_La_hear 4 = .ok (.iload_n 2, 1) := by decide +kernel
theorem d_La_hear_5 : decode b_La_hear 5 = .ok (.invokevirtual 54, 3) := by decide +kernel
theorem d_La_hear_8 : decode b_La_hear 8 = .ok (.i2l, 1) := by decide +kernel
theorem d_La_hear_9 : decode b_La_hear 9 = .ok (.lastore, 1) := by decide +kernel
theorem d_La_hear_10 : decode b_La_hear 10 = .ok (.goto 15, 3) := by decide +kernel
theorem d_La_hear_13 : decode b_La_hear 13 = .ok (.astore 4, 2) := by decide +kernel
theorem d_La_hear_15 : decode b_La_hear 15 = .ok (.iconst 1, 1) := by decide +kernel
theorem d_La_hear_16 : decode b_La_hear 16 = .ok (.ireturn, 1) := by decide +kernel
theorem d_La_hear_17 : decode b_La_hear 17 = .ok (.astore 4, 2) := by decide +kernel
theorem d_La_hear_19 : decode b_La_hear 19 = .ok (.iconst 2, 1) := by decide +kernel
theorem d_La_hear_20 : decode b_La_hear 20 = .ok (.ireturn, 1) := by decide +kernel
theorem d_La_hear_21 : decode b_La_hear 21 = .ok (.astore 4, 2) := by decide +kernel
theorem d_La_hear_23 : decode b_La_hear 23 = .ok (.iconst 3, 1) := by decide +kernel
theorem d_La_hear_24 : decode b_La_hear 24 = .ok (.ireturn, 1) := by decide +kernel
theorem d_La_hear_25 : decode b_La_hear 25 = .ok (.iconst 0, 1) := by decide +kernel
theorem d_La_hear_26 : decode b_La_hear 26 = .ok (.ireturn, 1) := by decide +kernel
theorem d_La_choose_0 : decode b_La_choose 0 = .ok (.aload_n 3, 1) := by decide +kernel
theorem d_La_choose_1 : decode b_La_choose 1 = .ok (.iconst 0, 1) := by decide +kernel
theorem d_La_choose_2 : decode b_La_choose 2 = .ok (.aload_n 0, 1) := by decide +kernel
theorem d_La_choose_3 : decode b_La_choose 3 = .ok (.iload_n 1, 1) := by decide +kernel
theorem d_La_choose_4 : decode b_La_choose 4 = .ok (.iload_n 2, 1) := by decide +kernel
theorem d_La_choose_5 : decode b_La_choose 5 = .ok (.invokevirtual 57, 3) := by decide +kernel
theorem d_La_choose_8 : decode b_La_choose 8 = .ok (.i2l, 1) := by decide +kernel
theorem d_La_choose_9 : decode b_La_choose 9 = .ok (.lastore, 1) := by decide +kernel
theorem d_La_choose_10 : decode b_La_choose 10 = .ok (.goto 15, 3) := by decide +kernel
theorem d_La_choose_13 : decode b_La_choose 13 = .ok (.astore 4, 2) := by decide +kernel
theorem d_La_choose_15 : decode b_La_choose 15 = .ok (.iconst 1, 1) := by decide +kernel
theorem d_La_choose_16 : decode b_La_choose 16 = .ok (.ireturn, 1) := by decide +kernel
theorem d_La_choose_17 : decode b_La_choose 17 = .ok (.astore 4, 2) := by decide +kernel
theorem d_La_choose_19 : decode b_La_choose 19 = .ok (.iconst 2, 1) := by decide +kernel
theorem d_La_choose_20 : decode b_La_choose 20 = .ok (.ireturn, 1) := by decide +kernel
theorem d_La_choose_21 : decode b_La_choose 21 = .ok (.astore 4, 2) := by decide +kernel
theorem d_La_choose_23 : decode b_La_choose 23 = .ok (.iconst 3, 1) := by decide +kernel
theorem d_La_choose_24 : decode b_La_choose 24 = .ok (.ireturn, 1) := by decide +kernel
theorem d_La_choose_25 : decode b_La_choose 25 = .ok (.iconst 0, 1) := by decide +kernel
theorem d_La_choose_26 : decode b_La_choose 26 = .ok (.ireturn, 1) := by decide +kernel
theorem d_La_close_0 : decode b_La_close 0 = .ok (.aload_n 3, 1) := by decide +kernel
theorem d_La_close_1 : decode b_La_close 1 = .ok (.iconst 0, 1) := by decide +kernel
theorem d_La_close_2 : decode b_La_close 2 = .ok (.aload_n 0, 1) := by decide +kernel
theorem d_La_close_3 : decode b_La_close 3 = .ok (.iload_n 1, 1) := by decide +kernel
theorem d_La_close_4 : decode b_La_close 4 = .ok (.iload_n 2, 1) := by decide +kernel
theorem d_La_close_5 : decode b_La_close 5 = .ok (.invokevirtual 60, 3) := by decide +kernel
theorem d_La_close_8 : decode b_La_close 8 = .ok (.i2l, 1) := by decide +kernel
theorem d_La_close_9 : decode b_La_close 9 = .ok (.lastore, 1) := by decide +kernel
theorem d_La_close_10 : decode b_La_close 10 = .ok (.goto 11, 3) := by decide +kernel
theorem d_La_close_13 : decode b_La_close 13 = .ok (.astore 4, 2) := by decide +kernel
theorem d_La_close_15 : decode b_La_close 15 = .ok (.iconst 1, 1) := by decide +kernel
theorem d_La_close_16 : decode b_La_close 16 = .ok (.ireturn, 1) := by decide +kernel
theorem d_La_close_17 : decode b_La_close 17 = .ok (.astore 4, 2) := by decide +kernel
theorem d_La_close_19 : decode b_La_close 19 = .ok (.iconst 2, 1) := by decide +kernel
theorem d_La_close_20 : decode b_La_close 20 = .ok (.ireturn, 1) := by decide +kernel
theorem d_La_close_21 : decode b_La_close 21 = .ok (.iconst 0, 1) := by decide +kernel
theorem d_La_close_22 : decode b_La_close 22 = .ok (.ireturn, 1) := by decide +kernel
theorem d_La_ofBlock_0 : decode b_La_ofBlock 0 = .ok (.aload_n 3, 1) := by decide +kernel
theorem d_La_ofBlock_1 : decode b_La_ofBlock 1 = .ok (.iconst 0, 1) := by decide +kernel
theorem d_La_ofBlock_2 : decode b_La_ofBlock 2 = .ok (.aload_n 0, 1) := by decide +kernel
theorem d_La_ofBlock_3 : decode b_La_ofBlock 3 = .ok (.iload_n 1, 1) := by decide +kernel
theorem d_La_ofBlock_4 : decode b_La_ofBlock 4 = .ok (.iload_n 2, 1) := by decide +kernel
theorem d_La_ofBlock_5 : decode b_La_ofBlock 5 = .ok (.invokevirtual 63, 3) := by decide +kernel
theorem d_La_ofBlock_8 : decode b_La_ofBlock 8 = .ok (.i2l, 1) := by decide +kernel
theorem d_La_ofBlock_9 : decode b_La_ofBlock 9 = .ok (.lastore, 1) := by decide +kernel
theorem d_La_ofBlock_10 : decode b_La_ofBlock 10 = .ok (.goto 7, 3) := by decide +kernel
theorem d_La_ofBlock_13 : decode b_La_ofBlock 13 = .ok (.astore 4, 2) := by decide +kernel
theorem d_La_ofBlock_15 : decode b_La_ofBlock 15 = .ok (.iconst 1, 1) := by decide +kernel
theorem d_La_ofBlock_16 : decode b_La_ofBlock 16 = .ok (.ireturn, 1) := by decide +kernel
theorem d_La_ofBlock_17 : decode b_La_ofBlock 17 = .ok (.iconst 0, 1) := by decide +kernel
theorem d_La_ofBlock_18 : decode b_La_ofBlock 18 = .ok (.ireturn, 1) := by decide +kernel
theorem d_La_ofEnd_0 : decode b_La_ofEnd 0 = .ok (.aload_n 3, 1) := by decide +kernel
theorem d_La_ofEnd_1 : decode b_La_ofEnd 1 = .ok (.iconst 0, 1) := by decide +kernel
theorem d_La_ofEnd_2 : decode b_La_ofEnd 2 = .ok (.aload_n 0, 1) := by decide +kernel
theorem d_La_ofEnd_3 : decode b_La_ofEnd 3 = .ok (.iload_n 1, 1) := by decide +kernel
theorem d_La_ofEnd_4 : decode b_La_ofEnd 4 = .ok (.iload_n 2, 1) := by decide +kernel
theorem d_La_ofEnd_5 : decode b_La_ofEnd 5 = .ok (.invokevirtual 66, 3) := by decide +kernel
theorem d_La_ofEnd_8 : decode b_La_ofEnd 8 = .ok (.i2l, 1) := by decide +kernel
theorem d_La_ofEnd_9 : decode b_La_ofEnd 9 = .ok (.lastore, 1) := by decide +kernel
theorem d_La_ofEnd_10 : decode b_La_ofEnd 10 = .ok (.goto 7, 3) := by decide +kernel
theorem d_La_ofEnd_13 : decode b_La_ofEnd 13 = .ok (.astore 4, 2) := by decide +kernel
theorem d_La_ofEnd_15 : decode b_La_ofEnd 15 = .ok (.iconst 1, 1) := by decide +kernel
theorem d_La_ofEnd_16 : decode b_La_ofEnd 16 = .ok (.ireturn, 1) := by decide +kernel
theorem d_La_ofEnd_17 : decode b_La_ofEnd 17 = .ok (.iconst 0, 1) := by decide +kernel
theorem d_La_ofEnd_18 : decode b_La_ofEnd 18 = .ok (.ireturn, 1) := by decide +kernel
theorem d_La_law_0 : decode code 0 = .ok (.new 8, 3) := by decide +kernel
theorem d_La_law_3 : decode code 3 = .ok (.dup, 1) := by decide +kernel
theorem d_La_law_4 : decode code 4 = .ok (.invokespecial 69, 3) := by decide +kernel
theorem d_La_law_7 : decode code 7 = .ok (.astore_n 1, 1) := by decide +kernel
theorem d_La_law_8 : decode code 8 = .ok (.new 70, 3) := by decide +kernel
theorem d_La_law_11 : decode code 11 = .ok (.dup, 1) := by decide +kernel
theorem d_La_law_12 : decode code 12 = .ok (.invokespecial 72, 3) := by decide +kernel
theorem d_La_law_15 : decode code 15 = .ok (.astore_n 2, 1) := by decide +kernel
theorem d_La_law_16 : decode code 16 = .ok (.iconst 1, 1) := by decide +kernel
theorem d_La_law_17 : decode code 17 = .ok (.newarray .long, 2) := by decide +kernel
theorem d_La_law_19 : decode code 19 = .ok (.astore_n 3, 1) := by decide +kernel
theorem d_La_law_20 : decode code 20 = .ok (.iconst 0, 1) := by decide +kernel
theorem d_La_law_21 : decode code 21 = .ok (.istore 4, 2) := by decide +kernel
theorem d_La_law_23 : decode code 23 = .ok (.iload 4, 2) := by decide +kernel
theorem d_La_law_25 : decode code 25 = .ok (.aload_n 0, 1) := by decide +kernel
theorem d_La_law_26 : decode code 26 = .ok (.arraylength, 1) := by decide +kernel
theorem d_La_law_27 : decode code 27 = .ok (.iconst 5, 1) := by decide +kernel
theorem d_La_law_28 : decode code 28 = .ok (.isub, 1) := by decide +kernel
theorem d_La_law_29 : decode code 29 = .ok (.if_icmp .gt 1122, 3) := by decide +kernel
theorem d_La_law_32 : decode code 32 = .ok (.aload_n 0, 1) := by decide +kernel
theorem d_La_law_33 : decode code 33 = .ok (.iload 4, 2) := by decide +kernel
theorem d_La_law_35 : decode code 35 = .ok (.iaload, 1) := by decide +kernel
theorem d_La_law_36 : decode code 36 = .ok (.bipush 15, 2) := by decide +kernel
theorem d_La_law_38 : decode code 38 = .ok (.iand, 1) := by decide +kernel
theorem d_La_law_39 : decode code 39 = .ok (.tableswitch 1106 0 15 #[77, 165, 221, 265, 321, 389, 437, 517, 589, 669, 741, 809, 877, 945, 1013, 1081], 77) := by decide +kernel
theorem d_La_law_116 : decode code 116 = .ok (.aload_n 1, 1) := by decide +kernel
theorem d_La_law_117 : decode code 117 = .ok (.aload_n 0, 1) := by decide +kernel
theorem d_La_law_118 : decode code 118 = .ok (.iload 4, 2) := by decide +kernel
theorem d_La_law_120 : decode code 120 = .ok (.iconst 1, 1) := by decide +kernel
theorem d_La_law_121 : decode code 121 = .ok (.iadd, 1) := by decide +kernel
theorem d_La_law_122 : decode code 122 = .ok (.iaload, 1) := by decide +kernel
theorem d_La_law_123 : decode code 123 = .ok (.i2l, 1) := by decide +kernel
theorem d_La_law_124 : decode code 124 = .ok (.bipush 32, 2) := by decide +kernel
theorem d_La_law_126 : decode code 126 = .ok (.lshl, 1) := by decide +kernel
theorem d_La_law_127 : decode code 127 = .ok (.aload_n 0, 1) := by decide +kernel
theorem d_La_law_128 : decode code 128 = .ok (.iload 4, 2) := by decide +kernel
theorem d_La_law_130 : decode code 130 = .ok (.iconst 2, 1) := by decide +kernel
theorem d_La_law_131 : decode code 131 = .ok (.iadd, 1) := by decide +kernel
theorem d_La_law_132 : decode code 132 = .ok (.iaload, 1) := by decide +kernel
theorem d_La_law_133 : decode code 133 = .ok (.i2l, 1) := by decide +kernel
theorem d_La_law_134 : decode code 134 = .ok (.ldc2_w 73, 3) := by decide +kernel
theorem d_La_law_137 : decode code 137 = .ok (.land, 1) := by decide +kernel
theorem d_La_law_138 : decode code 138 = .ok (.lor, 1) := by decide +kernel
theorem d_La_law_139 : decode code 139 = .ok (.aload_n 3, 1) := by decide +kernel
theorem d_La_law_140 : decode code 140 = .ok (.invokestatic 75, 3) := by decide +kernel
theorem d_La_law_143 : decode code 143 = .ok (.istore 5, 2) := by decide +kernel
theorem d_La_law_145 : decode code 145 = .ok (.aload_n 2, 1) := by decide +kernel
theorem d_La_law_146 : decode code 146 = .ok (.aload_n 0, 1) := by decide +kernel
theorem d_La_law_147 : decode code 147 = .ok (.iload 4, 2) := by decide +kernel
theorem d_La_law_149 : decode code 149 = .ok (.iconst 1, 1) := by decide +kernel
theorem d_La_law_150 : decode code 150 = .ok (.iadd, 1) := by decide +kernel
theorem d_La_law_151 : decode code 151 = .ok (.iaload, 1) := by decide +kernel
theorem d_La_law_152 : decode code 152 = .ok (.i2l, 1) := by decide +kernel
theorem d_La_law_153 : decode code 153 = .ok (.bipush 32, 2) := by decide +kernel
theorem d_La_law_155 : decode code 155 = .ok (.lshl, 1) := by decide +kernel
theorem d_La_law_156 : decode code 156 = .ok (.aload_n 0, 1) := by decide +kernel
theorem d_La_law_157 : decode code 157 = .ok (.iload 4, 2) := by decide +kernel
theorem d_La_law_159 : decode code 159 = .ok (.iconst 2, 1) := by decide +kernel
theorem d_La_law_160 : decode code 160 = .ok (.iadd, 1) := by decide +kernel
theorem d_La_law_161 : decode code 161 = .ok (.iaload, 1) := by decide +kernel
theorem d_La_law_162 : decode code 162 = .ok (.i2l, 1) := by decide +kernel
theorem d_La_law_163 : decode code 163 = .ok (.ldc2_w 73, 3) := by decide +kernel
theorem d_La_law_166 : decode code 166 = .ok (.land, 1) := by decide +kernel
theorem d_La_law_167 : decode code 167 = .ok (.lor, 1) := by decide +kernel
theorem d_La_law_168 : decode code 168 = .ok (.invokevirtual 80, 3) := by decide +kernel
theorem d_La_law_171 : decode code 171 = .ok (.istore 6, 2) := by decide +kernel
theorem d_La_law_173 : decode code 173 = .ok (.aload_n 2, 1) := by decide +kernel
theorem d_La_law_174 : decode code 174 = .ok (.invokevirtual 81, 3) := by decide +kernel
theorem d_La_law_177 : decode code 177 = .ok (.iload 5, 2) := by decide +kernel
theorem d_La_law_179 : decode code 179 = .ok (.if_icmp .eq 5, 3) := by decide +kernel
theorem d_La_law_182 : decode code 182 = .ok (.iconst 0, 1) := by decide +kernel
theorem d_La_law_183 : decode code 183 = .ok (.ireturn, 1) := by decide +kernel
theorem d_La_law_184 : decode code 184 = .ok (.iload 5, 2) := by decide +kernel
theorem d_La_law_186 : decode code 186 = .ok (.ifCond .ne 15, 3) := by decide +kernel
theorem d_La_law_189 : decode code 189 = .ok (.aload_n 3, 1) := by decide +kernel
theorem d_La_law_190 : decode code 190 = .ok (.iconst 0, 1) := by decide +kernel
theorem d_La_law_191 : decode code 191 = .ok (.laload, 1) := by decide +kernel
theorem d_La_law_192 : decode code 192 = .ok (.iload 6, 2) := by decide +kernel
theorem d_La_law_194 : decode code 194 = .ok (.i2l, 1) := by decide +kernel
theorem d_La_law_195 : decode code 195 = .ok (.lcmp, 1) := by decide +kernel
theorem d_La_law_196 : decode code 196 = .ok (.ifCond .eq 5, 3) := by decide +kernel
theorem d_La_law_199 : decode code 199 = .ok (.iconst 0, 1) := by decide +kernel
theorem d_La_law_200 : decode code 200 = .ok (.ireturn, 1) := by decide +kernel
theorem d_La_law_201 : decode code 201 = .ok (.goto 944, 3) := by decide +kernel
theorem d_La_law_204 : decode code 204 = .ok (.aload_n 1, 1) := by decide +kernel
theorem d_La_law_205 : decode code 205 = .ok (.aload_n 0, 1) := by decide +kernel
theorem d_La_law_206 : decode code 206 = .ok (.iload 4, 2) := by decide +kernel
theorem d_La_law_208 : decode code 208 = .ok (.iconst 1, 1) := by decide +kernel
theorem d_La_law_209 : decode code 209 = .ok (.iadd, 1) := by decide +kernel
theorem d_La_law_210 : decode code 210 = .ok (.iaload, 1) := by decide +kernel
theorem d_La_law_211 : decode code 211 = .ok (.aload_n 3, 1) := by decide +kernel
theorem d_La_law_212 : decode code 212 = .ok (.invokestatic 84, 3) := by decide +kernel
theorem d_La_law_215 : decode code 215 = .ok (.istore 5, 2) := by decide +kernel
theorem d_La_law_217 : decode code 217 = .ok (.aload_n 2, 1) := by decide +kernel
theorem d_La_law_218 : decode code 218 = .ok (.aload_n 0, 1) := by decide +kernel
theorem d_La_law_219 : decode code 219 = .ok (.iload 4, 2) := by decide +kernel
theorem d_La_law_221 : decode code 221 = .ok (.iconst 1, 1) := by decide +kernel
theorem d_La_law_222 : decode code 222 = .ok (.iadd, 1) := by decide +kernel
theorem d_La_law_223 : decode code 223 = .ok (.iaload, 1) := by decide +kernel
theorem d_La_law_224 : decode code 224 = .ok (.invokevirtual 87, 3) := by decide +kernel
theorem d_La_law_227 : decode code 227 = .ok (.istore 6, 2) := by decide +kernel
theorem d_La_law_229 : decode code 229 = .ok (.aload_n 2, 1) := by decide +kernel
theorem d_La_law_230 : decode code 230 = .ok (.invokevirtual 81, 3) := by decide +kernel
theorem d_La_law_233 : decode code 233 = .ok (.iload 5, 2) := by decide +kernel
theorem d_La_law_235 : decode code 235 = .ok (.if_icmp .eq 5, 3) := by decide +kernel
theorem d_La_law_238 : decode code 238 = .ok (.iconst 0, 1) := by decide +kernel
theorem d_La_law_239 : decode code 239 = .ok (.ireturn, 1) := by decide +kernel
theorem d_La_law_240 : decode code 240 = .ok (.iload 5, 2) := by decide +kernel
theorem d_La_law_242 : decode code 242 = .ok (.ifCond .ne 15, 3) := by decide +kernel
theorem d_La_law_245 : decode code 245 = .ok (.aload_n 3, 1) := by decide +kernel
theorem d_La_law_246 : decode code 246 = .ok (.iconst 0, 1) := by decide +kernel
theorem d_La_law_247 : decode code 247 = .ok (.laload, 1) := by decide +kernel
theorem d_La_law_248 : decode code 248 = .ok (.iload 6, 2) := by decide +kernel
theorem d_La_law_250 : decode code 250 = .ok (.i2l, 1) := by decide +kernel
theorem d_La_law_251 : decode code 251 = .ok (.lcmp, 1) := by decide +kernel
theorem d_La_law_252 : decode code 252 = .ok (.ifCond .eq 5, 3) := by decide +kernel
theorem d_La_law_255 : decode code 255 = .ok (.iconst 0, 1) := by decide +kernel
theorem d_La_law_256 : decode code 256 = .ok (.ireturn, 1) := by decide +kernel
theorem d_La_law_257 : decode code 257 = .ok (.goto 888, 3) := by decide +kernel
theorem d_La_law_260 : decode code 260 = .ok (.aload_n 1, 1) := by decide +kernel
theorem d_La_law_261 : decode code 261 = .ok (.aload_n 3, 1) := by decide +kernel
theorem d_La_law_262 : decode code 262 = .ok (.invokestatic 88, 3) := by decide +kernel
theorem d_La_law_265 : decode code 265 = .ok (.istore 5, 2) := by decide +kernel
theorem d_La_law_267 : decode code 267 = .ok (.aload_n 2, 1) := by decide +kernel
theorem d_La_law_268 : decode code 268 = .ok (.invokevirtual 91, 3) := by decide +kernel
theorem d_La_law_271 : decode code 271 = .ok (.istore 6, 2) := by decide +kernel
theorem d_La_law_273 : decode code 273 = .ok (.aload_n 2, 1) := by decide +kernel
theorem d_La_law_274 : decode code 274 = .ok (.invokevirtual 81, 3) := by decide +kernel
theorem d_La_law_277 : decode code 277 = .ok (.iload 5, 2) := by decide +kernel
theorem d_La_law_279 : decode code 279 = .ok (.if_icmp .eq 5, 3) := by decide +kernel
theorem d_La_law_282 : decode code 282 = .ok (.iconst 0, 1) := by decide +kernel
theorem d_La_law_283 : decode code 283 = .ok (.ireturn, 1) := by decide +kernel
theorem d_La_law_284 : decode code 284 = .ok (.iload 5, 2) := by decide +kernel
theorem d_La_law_286 : decode code 286 = .ok (.ifCond .ne 15, 3) := by decide +kernel
theorem d_La_law_289 : decode code 289 = .ok (.aload_n 3, 1) := by decide +kernel
theorem d_La_law_290 : decode code 290 = .ok (.iconst 0, 1) := by decide +kernel
theorem d_La_law_291 : decode code 291 = .ok (.laload, 1) := by decide +kernel
theorem d_La_law_292 : decode code 292 = .ok (.iload 6, 2) := by decide +kernel
theorem d_La_law_294 : decode code 294 = .ok (.i2l, 1) := by decide +kernel
theorem d_La_law_295 : decode code 295 = .ok (.lcmp, 1) := by decide +kernel
theorem d_La_law_296 : decode code 296 = .ok (.ifCond .eq 5, 3) := by decide +kernel
theorem d_La_law_299 : decode code 299 = .ok (.iconst 0, 1) := by decide +kernel
theorem d_La_law_300 : decode code 300 = .ok (.ireturn, 1) := by decide +kernel
theorem d_La_law_301 : decode code 301 = .ok (.goto 844, 3) := by decide +kernel
theorem d_La_law_304 : decode code 304 = .ok (.aload_n 1, 1) := by decide +kernel
theorem d_La_law_305 : decode code 305 = .ok (.aload_n 0, 1) := by decide +kernel
theorem d_La_law_306 : decode code 306 = .ok (.iload 4, 2) := by decide +kernel
theorem d_La_law_308 : decode code 308 = .ok (.iconst 1, 1) := by decide +kernel
theorem d_La_law_309 : decode code 309 = .ok (.iadd, 1) := by decide +kernel
theorem d_La_law_310 : decode code 310 = .ok (.iaload, 1) := by decide +kernel
theorem d_La_law_311 : decode code 311 = .ok (.aload_n 3, 1) := by decide +kernel
theorem d_La_law_312 : decode code 312 = .ok (.invokestatic 92, 3) := by decide +kernel
theorem d_La_law_315 : decode code 315 = .ok (.istore 5, 2) := by decide +kernel
theorem d_La_law_317 : decode code 317 = .ok (.aload_n 2, 1) := by decide +kernel
theorem d_La_law_318 : decode code 318 = .ok (.aload_n 0, 1) := by decide +kernel
theorem d_La_law_319 : decode code 319 = .ok (.iload 4, 2) := by decide +kernel
theorem d_La_law_321 : decode code 321 = .ok (.iconst 1, 1) := by decide +kernel
theorem d_La_law_322 : decode code 322 = .ok (.iadd, 1) := by decide +kernel
theorem d_La_law_323 : decode code 323 = .ok (.iaload, 1) := by decide +kernel
theorem d_La_law_324 : decode code 324 = .ok (.invokevirtual 94, 3) := by decide +kernel
theorem d_La_law_327 : decode code 327 = .ok (.istore 6, 2) := by decide +kernel
theorem d_La_law_329 : decode code 329 = .ok (.aload_n 2, 1) := by decide +kernel
theorem d_La_law_330 : decode code 330 = .ok (.invokevirtual 81, 3) := by decide +kernel
theorem d_La_law_333 : decode code 333 = .ok (.iload 5, 2) := by decide +kernel
theorem d_La_law_335 : decode code 335 = .ok (.if_icmp .eq 5, 3) := by decide +kernel
theorem d_La_law_338 : decode code 338 = .ok (.iconst 0, 1) := by decide +kernel
theorem d_La_law_339 : decode code 339 = .ok (.ireturn, 1) := by decide +kernel
theorem d_La_law_340 : decode code 340 = .ok (.iload 5, 2) := by decide +kernel
theorem d_La_law_342 : decode code 342 = .ok (.ifCond .ne 15, 3) := by decide +kernel
theorem d_La_law_345 : decode code 345 = .ok (.aload_n 3, 1) := by decide +kernel
theorem d_La_law_346 : decode code 346 = .ok (.iconst 0, 1) := by decide +kernel
theorem d_La_law_347 : decode code 347 = .ok (.laload, 1) := by decide +kernel
theorem d_La_law_348 : decode code 348 = .ok (.iload 6, 2) := by decide +kernel
theorem d_La_law_350 : decode code 350 = .ok (.i2l, 1) := by decide +kernel
theorem d_La_law_351 : decode code 351 = .ok (.lcmp, 1) := by decide +kernel
theorem d_La_law_352 : decode code 352 = .ok (.ifCond .eq 5, 3) := by decide +kernel
theorem d_La_law_355 : decode code 355 = .ok (.iconst 0, 1) := by decide +kernel
theorem d_La_law_356 : decode code 356 = .ok (.ireturn, 1) := by decide +kernel
theorem d_La_law_357 : decode code 357 = .ok (.goto 788, 3) := by decide +kernel
theorem d_La_law_360 : decode code 360 = .ok (.aload_n 1, 1) := by decide +kernel
theorem d_La_law_361 : decode code 361 = .ok (.aload_n 0, 1) := by decide +kernel
theorem d_La_law_362 : decode code 362 = .ok (.iload 4, 2) := by decide +kernel
theorem d_La_law_364 : decode code 364 = .ok (.iconst 1, 1) := by decide +kernel
theorem d_La_law_365 : decode code 365 = .ok (.iadd, 1) := by decide +kernel
theorem d_La_law_366 : decode code 366 = .ok (.iaload, 1) := by decide +kernel
theorem d_La_law_367 : decode code 367 = .ok (.aload_n 0, 1) := by decide +kernel
theorem d_La_law_368 : decode code 368 = .ok (.iload 4, 2) := by decide +kernel
theorem d_La_law_370 : decode code 370 = .ok (.iconst 2, 1) := by decide +kernel
theorem d_La_law_371 : decode code 371 = .ok (.iadd, 1) := by decide +kernel
theorem d_La_law_372 : decode code 372 = .ok (.iaload, 1) := by decide +kernel
theorem d_La_law_373 : decode code 373 = .ok (.aload_n 3, 1) := by decide +kernel
theorem d_La_law_374 : decode code 374 = .ok (.invokestatic 95, 3) := by decide +kernel
theorem d_La_law_377 : decode code 377 = .ok (.istore 5, 2) := by decide +kernel
theorem d_La_law_379 : decode code 379 = .ok (.aload_n 2, 1) := by decide +kernel
theorem d_La_law_380 : decode code 380 = .ok (.aload_n 0, 1) := by decide +kernel
theorem d_La_law_381 : decode code 381 = .ok (.iload 4, 2) := by decide +kernel
theorem d_La_law_383 : decode code 383 = .ok (.iconst 1, 1) := by decide +kernel
theorem d_La_law_384 : decode code 384 = .ok (.iadd, 1) := by decide +kernel
theorem d_La_law_385 : decode code 385 = .ok (.iaload, 1) := by decide +kernel
theorem d_La_law_386 : decode code 386 = .ok (.aload_n 0, 1) := by decide +kernel
theorem d_La_law_387 : decode code 387 = .ok (.iload 4, 2) := by decide +kernel
theorem d_La_law_389 : decode code 389 = .ok (.iconst 2, 1) := by decide +kernel
theorem d_La_law_390 : decode code 390 = .ok (.iadd, 1) := by decide +kernel
theorem d_La_law_391 : decode code 391 = .ok (.iaload, 1) := by decide +kernel
theorem d_La_law_392 : decode code 392 = .ok (.invokevirtual 98, 3) := by decide +kernel
theorem d_La_law_395 : decode code 395 = .ok (.istore 6, 2) := by decide +kernel
theorem d_La_law_397 : decode code 397 = .ok (.aload_n 2, 1) := by decide +kernel
theorem d_La_law_398 : decode code 398 = .ok (.invokevirtual 81, 3) := by decide +kernel
theorem d_La_law_401 : decode code 401 = .ok (.iload 5, 2) := by decide +kernel
theorem d_La_law_403 : decode code 403 = .ok (.if_icmp .eq 5, 3) := by decide +kernel
theorem d_La_law_406 : decode code 406 = .ok (.iconst 0, 1) := by decide +kernel
theorem d_La_law_407 : decode code 407 = .ok (.ireturn, 1) := by decide +kernel
theorem d_La_law_408 : decode code 408 = .ok (.iload 5, 2) := by decide +kernel
theorem d_La_law_410 : decode code 410 = .ok (.ifCond .ne 15, 3) := by decide +kernel
theorem d_La_law_413 : decode code 413 = .ok (.aload_n 3, 1) := by decide +kernel
theorem d_La_law_414 : decode code 414 = .ok (.iconst 0, 1) := by decide +kernel
theorem d_La_law_415 : decode code 415 = .ok (.laload, 1) := by decide +kernel
theorem d_La_law_416 : decode code 416 = .ok (.iload 6, 2) := by decide +kernel
theorem d_La_law_418 : decode code 418 = .ok (.i2l, 1) := by decide +kernel
theorem d_La_law_419 : decode code 419 = .ok (.lcmp, 1) := by decide +kernel
theorem d_La_law_420 : decode code 420 = .ok (.ifCond .eq 5, 3) := by decide +kernel
theorem d_La_law_423 : decode code 423 = .ok (.iconst 0, 1) := by decide +kernel
theorem d_La_law_424 : decode code 424 = .ok (.ireturn, 1) := by decide +kernel
theorem d_La_law_425 : decode code 425 = .ok (.goto 720, 3) := by decide +kernel
theorem d_La_law_428 : decode code 428 = .ok (.aload_n 1, 1) := by decide +kernel
theorem d_La_law_429 : decode code 429 = .ok (.aload_n 0, 1) := by decide +kernel
theorem d_La_law_430 : decode code 430 = .ok (.iload 4, 2) := by decide +kernel
theorem d_La_law_432 : decode code 432 = .ok (.iconst 1, 1) := by decide +kernel
theorem d_La_law_433 : decode code 433 = .ok (.iadd, 1) := by decide +kernel
theorem d_La_law_434 : decode code 434 = .ok (.iaload, 1) := by decide +kernel
theorem d_La_law_435 : decode code 435 = .ok (.aload_n 0, 1) := by decide +kernel
theorem d_La_law_436 : decode code 436 = .ok (.iload 4, 2) := by decide +kernel
theorem d_La_law_438 : decode code 438 = .ok (.iconst 2, 1) := by decide +kernel
theorem d_La_law_439 : decode code 439 = .ok (.iadd, 1) := by decide +kernel
theorem d_La_law_440 : decode code 440 = .ok (.iaload, 1) := by decide +kernel
theorem d_La_law_441 : decode code 441 = .ok (.invokestatic 99, 3) := by decide +kernel
theorem d_La_law_444 : decode code 444 = .ok (.istore 5, 2) := by decide +kernel
theorem d_La_law_446 : decode code 446 = .ok (.aload_n 2, 1) := by decide +kernel
theorem d_La_law_447 : decode code 447 = .ok (.aload_n 0, 1) := by decide +kernel
theorem d_La_law_448 : decode code 448 = .ok (.iload 4, 2) := by decide +kernel
theorem d_La_law_450 : decode code 450 = .ok (.iconst 1, 1) := by decide +kernel
theorem d_La_law_451 : decode code 451 = .ok (.iadd, 1) := by decide +kernel
theorem d_La_law_452 : decode code 452 = .ok (.iaload, 1) := by decide +kernel
theorem d_La_law_453 : decode code 453 = .ok (.aload_n 0, 1) := by decide +kernel
theorem d_La_law_454 : decode code 454 = .ok (.iload 4, 2) := by decide +kernel
theorem d_La_law_456 : decode code 456 = .ok (.iconst 2, 1) := by decide +kernel
theorem d_La_law_457 : decode code 457 = .ok (.iadd, 1) := by decide +kernel
theorem d_La_law_458 : decode code 458 = .ok (.iaload, 1) := by decide +kernel
theorem d_La_law_459 : decode code 459 = .ok (.invokevirtual 102, 3) := by decide +kernel
theorem d_La_law_462 : decode code 462 = .ok (.aload_n 2, 1) := by decide +kernel
theorem d_La_law_463 : decode code 463 = .ok (.invokevirtual 81, 3) := by decide +kernel
theorem d_La_law_466 : decode code 466 = .ok (.iload 5, 2) := by decide +kernel
theorem d_La_law_468 : decode code 468 = .ok (.if_icmp .eq 5, 3) := by decide +kernel
theorem d_La_law_471 : decode code 471 = .ok (.iconst 0, 1) := by decide +kernel
theorem d_La_law_472 : decode code 472 = .ok (.ireturn, 1) := by decide +kernel
theorem d_La_law_473 : decode code 473 = .ok (.goto 672, 3) := by decide +kernel
theorem d_La_law_476 : decode code 476 = .ok (.aload_n 1, 1) := by decide +kernel
theorem d_La_law_477 : decode code 477 = .ok (.aload_n 0, 1) := by decide +kernel
theorem d_La_law_478 : decode code 478 = .ok (.iload 4, 2) := by decide +kernel
theorem d_La_law_480 : decode code 480 = .ok (.iconst 1, 1) := by decide +kernel
theorem d_La_law_481 : decode code 481 = .ok (.iadd, 1) := by decide +kernel
theorem d_La_law_482 : decode code 482 = .ok (.iaload, 1) := by decide +kernel
theorem d_La_law_483 : decode code 483 = .ok (.aload_n 0, 1) := by decide +kernel
theorem d_La_law_484 : decode code 484 = .ok (.iload 4, 2) := by decide +kernel
theorem d_La_law_486 : decode code 486 = .ok (.iconst 2, 1) := by decide +kernel
theorem d_La_law_487 : decode code 487 = .ok (.iadd, 1) := by decide +kernel
theorem d_La_law_488 : decode code 488 = .ok (.iaload, 1) := by decide +kernel
theorem d_La_law_489 : decode code 489 = .ok (.aload_n 0, 1) := by decide +kernel
theorem d_La_law_490 : decode code 490 = .ok (.iload 4, 2) := by decide +kernel
theorem d_La_law_492 : decode code 492 = .ok (.iconst 3, 1) := by decide +kernel
theorem d_La_law_493 : decode code 493 = .ok (.iadd, 1) := by decide +kernel
theorem d_La_law_494 : decode code 494 = .ok (.iaload, 1) := by decide +kernel
theorem d_La_law_495 : decode code 495 = .ok (.aload_n 3, 1) := by decide +kernel
theorem d_La_law_496 : decode code 496 = .ok (.invokestatic 103, 3) := by decide +kernel
theorem d_La_law_499 : decode code 499 = .ok (.istore 5, 2) := by decide +kernel
theorem d_La_law_501 : decode code 501 = .ok (.aload_n 2, 1) := by decide +kernel
theorem d_La_law_502 : decode code 502 = .ok (.aload_n 0, 1) := by decide +kernel
theorem d_La_law_503 : decode code 503 = .ok (.iload 4, 2) := by decide +kernel
theorem d_La_law_505 : decode code 505 = .ok (.iconst 1, 1) := by decide +kernel
theorem d_La_law_506 : decode code 506 = .ok (.iadd, 1) := by decide +kernel
theorem d_La_law_507 : decode code 507 = .ok (.iaload, 1) := by decide +kernel
theorem d_La_law_508 : decode code 508 = .ok (.aload_n 0, 1) := by decide +kernel
theorem d_La_law_509 : decode code 509 = .ok (.iload 4, 2) := by decide +kernel
theorem d_La_law_511 : decode code 511 = .ok (.iconst 2, 1) := by decide +kernel
theorem d_La_law_512 : decode code 512 = .ok (.iadd, 1) := by decide +kernel
theorem d_La_law_513 : decode code 513 = .ok (.iaload, 1) := by decide +kernel
theorem d_La_law_514 : decode code 514 = .ok (.aload_n 0, 1) := by decide +kernel
theorem d_La_law_515 : decode code 515 = .ok (.iload 4, 2) := by decide +kernel
theorem d_La_law_517 : decode code 517 = .ok (.iconst 3, 1) := by decide +kernel
theorem d_La_law_518 : decode code 518 = .ok (.iadd, 1) := by decide +kernel
theorem d_La_law_519 : decode code 519 = .ok (.iaload, 1) := by decide +kernel
theorem d_La_law_520 : decode code 520 = .ok (.invokevirtual 106, 3) := by decide +kernel
theorem d_La_law_523 : decode code 523 = .ok (.istore 6, 2) := by decide +kernel
theorem d_La_law_525 : decode code 525 = .ok (.aload_n 2, 1) := by decide +kernel
theorem d_La_law_526 : decode code 526 = .ok (.invokevirtual 81, 3) := by decide +kernel
theorem d_La_law_529 : decode code 529 = .ok (.iload 5, 2) := by decide +kernel
theorem d_La_law_531 : decode code 531 = .ok (.if_icmp .eq 5, 3) := by decide +kernel
theorem d_La_law_534 : decode code 534 = .ok (.iconst 0, 1) := by decide +kernel
theorem d_La_law_535 : decode code 535 = .ok (.ireturn, 1) := by decide +kernel
theorem d_La_law_536 : decode code 536 = .ok (.iload 5, 2) := by decide +kernel
theorem d_La_law_538 : decode code 538 = .ok (.ifCond .ne 15, 3) := by decide +kernel
theorem d_La_law_541 : decode code 541 = .ok (.aload_n 3, 1) := by decide +kernel
theorem d_La_law_542 : decode code 542 = .ok (.iconst 0, 1) := by decide +kernel
theorem d_La_law_543 : decode code 543 = .ok (.laload, 1) := by decide +kernel
theorem d_La_law_544 : decode code 544 = .ok (.iload 6, 2) := by decide +kernel
theorem d_La_law_546 : decode code 546 = .ok (.i2l, 1) := by decide +kernel
theorem d_La_law_547 : decode code 547 = .ok (.lcmp, 1) := by decide +kernel
theorem d_La_law_548 : decode code 548 = .ok (.ifCond .eq 5, 3) := by decide +kernel
theorem d_La_law_551 : decode code 551 = .ok (.iconst 0, 1) := by decide +kernel
theorem d_La_law_552 : decode code 552 = .ok (.ireturn, 1) := by decide +kernel
theorem d_La_law_553 : decode code 553 = .ok (.goto 592, 3) := by decide +kernel
theorem d_La_law_556 : decode code 556 = .ok (.aload_n 1, 1) := by decide +kernel
theorem d_La_law_557 : decode code 557 = .ok (.aload_n 0, 1) := by decide +kernel
theorem d_La_law_558 : decode code 558 = .ok (.iload 4, 2) := by decide +kernel
theorem d_La_law_560 : decode code 560 = .ok (.iconst 1, 1) := by decide +kernel
theorem d_La_law_561 : decode code 561 = .ok (.iadd, 1) := by decide +kernel
theorem d_La_law_562 : decode code 562 = .ok (.iaload, 1) := by decide +kernel
theorem d_La_law_563 : decode code 563 = .ok (.aload_n 0, 1) := by decide +kernel
theorem d_La_law_564 : decode code 564 = .ok (.iload 4, 2) := by decide +kernel
theorem d_La_law_566 : decode code 566 = .ok (.iconst 2, 1) := by decide +kernel
theorem d_La_law_567 : decode code 567 = .ok (.iadd, 1) := by decide +kernel
theorem d_La_law_568 : decode code 568 = .ok (.iaload, 1) := by decide +kernel
theorem d_La_law_569 : decode code 569 = .ok (.aload_n 0, 1) := by decide +kernel
theorem d_La_law_570 : decode code 570 = .ok (.iload 4, 2) := by decide +kernel
theorem d_La_law_572 : decode code 572 = .ok (.iconst 3, 1) := by decide +kernel
theorem d_La_law_573 : decode code 573 = .ok (.iadd, 1) := by decide +kernel
theorem d_La_law_574 : decode code 574 = .ok (.iaload, 1) := by decide +kernel
theorem d_La_law_575 : decode code 575 = .ok (.aload_n 0, 1) := by decide +kernel
theorem d_La_law_576 : decode code 576 = .ok (.iload 4, 2) := by decide +kernel
theorem d_La_law_578 : decode code 578 = .ok (.iconst 4, 1) := by decide +kernel
theorem d_La_law_579 : decode code 579 = .ok (.iadd, 1) := by decide +kernel
theorem d_La_law_580 : decode code 580 = .ok (.iaload, 1) := by decide +kernel
theorem d_La_law_581 : decode code 581 = .ok (.invokestatic 107, 3) := by decide +kernel
theorem d_La_law_584 : decode code 584 = .ok (.istore 5, 2) := by decide +kernel
theorem d_La_law_586 : decode code 586 = .ok (.aload_n 2, 1) := by decide +kernel
theorem d_La_law_587 : decode code 587 = .ok (.aload_n 0, 1) := by decide +kernel
theorem d_La_law_588 : decode code 588 = .ok (.iload 4, 2) := by decide +kernel
theorem d_La_law_590 : decode code 590 = .ok (.iconst 1, 1) := by decide +kernel
theorem d_La_law_591 : decode code 591 = .ok (.iadd, 1) := by decide +kernel
theorem d_La_law_592 : decode code 592 = .ok (.iaload, 1) := by decide +kernel
theorem d_La_law_593 : decode code 593 = .ok (.aload_n 0, 1) := by decide +kernel
theorem d_La_law_594 : decode code 594 = .ok (.iload 4, 2) := by decide +kernel
theorem d_La_law_596 : decode code 596 = .ok (.iconst 2, 1) := by decide +kernel
theorem d_La_law_597 : decode code 597 = .ok (.iadd, 1) := by decide +kernel
theorem d_La_law_598 : decode code 598 = .ok (.iaload, 1) := by decide +kernel
theorem d_La_law_599 : decode code 599 = .ok (.aload_n 0, 1) := by decide +kernel
theorem d_La_law_600 : decode code 600 = .ok (.iload 4, 2) := by decide +kernel
theorem d_La_law_602 : decode code 602 = .ok (.iconst 3, 1) := by decide +kernel
theorem d_La_law_603 : decode code 603 = .ok (.iadd, 1) := by decide +kernel
theorem d_La_law_604 : decode code 604 = .ok (.iaload, 1) := by decide +kernel
theorem d_La_law_605 : decode code 605 = .ok (.aload_n 0, 1) := by decide +kernel
theorem d_La_law_606 : decode code 606 = .ok (.iload 4, 2) := by decide +kernel
theorem d_La_law_608 : decode code 608 = .ok (.iconst 4, 1) := by decide +kernel
theorem d_La_law_609 : decode code 609 = .ok (.iadd, 1) := by decide +kernel
theorem d_La_law_610 : decode code 610 = .ok (.iaload, 1) := by decide +kernel
theorem d_La_law_611 : decode code 611 = .ok (.invokevirtual 110, 3) := by decide +kernel
theorem d_La_law_614 : decode code 614 = .ok (.aload_n 2, 1) := by decide +kernel
theorem d_La_law_615 : decode code 615 = .ok (.invokevirtual 81, 3) := by decide +kernel
theorem d_La_law_618 : decode code 618 = .ok (.iload 5, 2) := by decide +kernel
theorem d_La_law_620 : decode code 620 = .ok (.if_icmp .eq 5, 3) := by decide +kernel
theorem d_La_law_623 : decode code 623 = .ok (.iconst 0, 1) := by decide +kernel
theorem d_La_law_624 : decode code 624 = .ok (.ireturn, 1) := by decide +kernel
theorem d_La_law_625 : decode code 625 = .ok (.goto 520, 3) := by decide +kernel
theorem d_La_law_628 : decode code 628 = .ok (.aload_n 1, 1) := by decide +kernel
theorem d_La_law_629 : decode code 629 = .ok (.aload_n 0, 1) := by decide +kernel
theorem d_La_law_630 : decode code 630 = .ok (.iload 4, 2) := by decide +kernel
theorem d_La_law_632 : decode code 632 = .ok (.iconst 1, 1) := by decide +kernel
theorem d_La_law_633 : decode code 633 = .ok (.iadd, 1) := by decide +kernel
theorem d_La_law_634 : decode code 634 = .ok (.iaload, 1) := by decide +kernel
theorem d_La_law_635 : decode code 635 = .ok (.aload_n 0, 1) := by decide +kernel
theorem d_La_law_636 : decode code 636 = .ok (.iload 4, 2) := by decide +kernel
theorem d_La_law_638 : decode code 638 = .ok (.iconst 2, 1) := by decide +kernel
theorem d_La_law_639 : decode code 639 = .ok (.iadd, 1) := by decide +kernel
theorem d_La_law_640 : decode code 640 = .ok (.iaload, 1) := by decide +kernel
theorem d_La_law_641 : decode code 641 = .ok (.aload_n 0, 1) := by decide +kernel
theorem d_La_law_642 : decode code 642 = .ok (.iload 4, 2) := by decide +kernel
theorem d_La_law_644 : decode code 644 = .ok (.iconst 3, 1) := by decide +kernel
theorem d_La_law_645 : decode code 645 = .ok (.iadd, 1) := by decide +kernel
theorem d_La_law_646 : decode code 646 = .ok (.iaload, 1) := by decide +kernel
theorem d_La_law_647 : decode code 647 = .ok (.aload_n 3, 1) := by decide +kernel
theorem d_La_law_648 : decode code 648 = .ok (.invokestatic 111, 3) := by decide +kernel
theorem d_La_law_651 : decode code 651 = .ok (.istore 5, 2) := by decide +kernel
theorem d_La_law_653 : decode code 653 = .ok (.aload_n 2, 1) := by decide +kernel
theorem d_La_law_654 : decode code 654 = .ok (.aload_n 0, 1) := by decide +kernel
theorem d_La_law_655 : decode code 655 = .ok (.iload 4, 2) := by decide +kernel
theorem d_La_law_657 : decode code 657 = .ok (.iconst 1, 1) := by decide +kernel
theorem d_La_law_658 : decode code 658 = .ok (.iadd, 1) := by decide +kernel
theorem d_La_law_659 : decode code 659 = .ok (.iaload, 1) := by decide +kernel
theorem d_La_law_660 : decode code 660 = .ok (.aload_n 0, 1) := by decide +kernel
theorem d_La_law_661 : decode code 661 = .ok (.iload 4, 2) := by decide +kernel
theorem d_La_law_663 : decode code 663 = .ok (.iconst 2, 1) := by decide +kernel
theorem d_La_law_664 : decode code 664 = .ok (.iadd, 1) := by decide +kernel
theorem d_La_law_665 : decode code 665 = .ok (.iaload, 1) := by decide +kernel
theorem d_La_law_666 : decode code 666 = .ok (.aload_n 0, 1) := by decide +kernel
theorem d_La_law_667 : decode code 667 = .ok (.iload 4, 2) := by decide +kernel
theorem d_La_law_669 : decode code 669 = .ok (.iconst 3, 1) := by decide +kernel
theorem d_La_law_670 : decode code 670 = .ok (.iadd, 1) := by decide +kernel
theorem d_La_law_671 : decode code 671 = .ok (.iaload, 1) := by decide +kernel
theorem d_La_law_672 : decode code 672 = .ok (.invokevirtual 113, 3) := by decide +kernel
theorem d_La_law_675 : decode code 675 = .ok (.istore 6, 2) := by decide +kernel
theorem d_La_law_677 : decode code 677 = .ok (.aload_n 2, 1) := by decide +kernel
theorem d_La_law_678 : decode code 678 = .ok (.invokevirtual 81, 3) := by decide +kernel
theorem d_La_law_681 : decode code 681 = .ok (.iload 5, 2) := by decide +kernel
theorem d_La_law_683 : decode code 683 = .ok (.if_icmp .eq 5, 3) := by decide +kernel
theorem d_La_law_686 : decode code 686 = .ok (.iconst 0, 1) := by decide +kernel
theorem d_La_law_687 : decode code 687 = .ok (.ireturn, 1) := by decide +kernel
theorem d_La_law_688 : decode code 688 = .ok (.iload 5, 2) := by decide +kernel
theorem d_La_law_690 : decode code 690 = .ok (.ifCond .ne 15, 3) := by decide +kernel
theorem d_La_law_693 : decode code 693 = .ok (.aload_n 3, 1) := by decide +kernel
theorem d_La_law_694 : decode code 694 = .ok (.iconst 0, 1) := by decide +kernel
theorem d_La_law_695 : decode code 695 = .ok (.laload, 1) := by decide +kernel
theorem d_La_law_696 : decode code 696 = .ok (.iload 6, 2) := by decide +kernel
theorem d_La_law_698 : decode code 698 = .ok (.i2l, 1) := by decide +kernel
theorem d_La_law_699 : decode code 699 = .ok (.lcmp, 1) := by decide +kernel
theorem d_La_law_700 : decode code 700 = .ok (.ifCond .eq 5, 3) := by decide +kernel
theorem d_La_law_703 : decode code 703 = .ok (.iconst 0, 1) := by decide +kernel
theorem d_La_law_704 : decode code 704 = .ok (.ireturn, 1) := by decide +kernel
theorem d_La_law_705 : decode code 705 = .ok (.goto 440, 3) := by decide +kernel
theorem d_La_law_708 : decode code 708 = .ok (.aload_n 1, 1) := by decide +kernel
theorem d_La_law_709 : decode code 709 = .ok (.aload_n 0, 1) := by decide +kernel
theorem d_La_law_710 : decode code 710 = .ok (.iload 4, 2) := by decide +kernel
theorem d_La_law_712 : decode code 712 = .ok (.iconst 1, 1) := by decide +kernel
theorem d_La_law_713 : decode code 713 = .ok (.iadd, 1) := by decide +kernel
theorem d_La_law_714 : decode code 714 = .ok (.iaload, 1) := by decide +kernel
theorem d_La_law_715 : decode code 715 = .ok (.aload_n 0, 1) := by decide +kernel
theorem d_La_law_716 : decode code 716 = .ok (.iload 4, 2) := by decide +kernel
theorem d_La_law_718 : decode code 718 = .ok (.iconst 2, 1) := by decide +kernel
theorem d_La_law_719 : decode code 719 = .ok (.iadd, 1) := by decide +kernel
theorem d_La_law_720 : decode code 720 = .ok (.iaload, 1) := by decide +kernel
theorem d_La_law_721 : decode code 721 = .ok (.aload_n 0, 1) := by decide +kernel
theorem d_La_law_722 : decode code 722 = .ok (.iload 4, 2) := by decide +kernel
theorem d_La_law_724 : decode code 724 = .ok (.iconst 3, 1) := by decide +kernel
theorem d_La_law_725 : decode code 725 = .ok (.iadd, 1) := by decide +kernel
theorem d_La_law_726 : decode code 726 = .ok (.iaload, 1) := by decide +kernel
theorem d_La_law_727 : decode code 727 = .ok (.aload_n 0, 1) := by decide +kernel
theorem d_La_law_728 : decode code 728 = .ok (.iload 4, 2) := by decide +kernel
theorem d_La_law_730 : decode code 730 = .ok (.iconst 4, 1) := by decide +kernel
theorem d_La_law_731 : decode code 731 = .ok (.iadd, 1) := by decide +kernel
theorem d_La_law_732 : decode code 732 = .ok (.iaload, 1) := by decide +kernel
theorem d_La_law_733 : decode code 733 = .ok (.invokestatic 114, 3) := by decide +kernel
theorem d_La_law_736 : decode code 736 = .ok (.istore 5, 2) := by decide +kernel
theorem d_La_law_738 : decode code 738 = .ok (.aload_n 2, 1) := by decide +kernel
theorem d_La_law_739 : decode code 739 = .ok (.aload_n 0, 1) := by decide +kernel
theorem d_La_law_740 : decode code 740 = .ok (.iload 4, 2) := by decide +kernel
theorem d_La_law_742 : decode code 742 = .ok (.iconst 1, 1) := by decide +kernel
theorem d_La_law_743 : decode code 743 = .ok (.iadd, 1) := by decide +kernel
theorem d_La_law_744 : decode code 744 = .ok (.iaload, 1) := by decide +kernel
theorem d_La_law_745 : decode code 745 = .ok (.aload_n 0, 1) := by decide +kernel
theorem d_La_law_746 : decode code 746 = .ok (.iload 4, 2) := by decide +kernel
theorem d_La_law_748 : decode code 748 = .ok (.iconst 2, 1) := by decide +kernel
theorem d_La_law_749 : decode code 749 = .ok (.iadd, 1) := by decide +kernel
theorem d_La_law_750 : decode code 750 = .ok (.iaload, 1) := by decide +kernel
theorem d_La_law_751 : decode code 751 = .ok (.aload_n 0, 1) := by decide +kernel
theorem d_La_law_752 : decode code 752 = .ok (.iload 4, 2) := by decide +kernel
theorem d_La_law_754 : decode code 754 = .ok (.iconst 3, 1) := by decide +kernel
theorem d_La_law_755 : decode code 755 = .ok (.iadd, 1) := by decide +kernel
theorem d_La_law_756 : decode code 756 = .ok (.iaload, 1) := by decide +kernel
theorem d_La_law_757 : decode code 757 = .ok (.aload_n 0, 1) := by decide +kernel
theorem d_La_law_758 : decode code 758 = .ok (.iload 4, 2) := by decide +kernel
theorem d_La_law_760 : decode code 760 = .ok (.iconst 4, 1) := by decide +kernel
theorem d_La_law_761 : decode code 761 = .ok (.iadd, 1) := by decide +kernel
theorem d_La_law_762 : decode code 762 = .ok (.iaload, 1) := by decide +kernel
theorem d_La_law_763 : decode code 763 = .ok (.invokevirtual 116, 3) := by decide +kernel
theorem d_La_law_766 : decode code 766 = .ok (.aload_n 2, 1) := by decide +kernel
theorem d_La_law_767 : decode code 767 = .ok (.invokevirtual 81, 3) := by decide +kernel
theorem d_La_law_770 : decode code 770 = .ok (.iload 5, 2) := by decide +kernel
theorem d_La_law_772 : decode code 772 = .ok (.if_icmp .eq 5, 3) := by decide +kernel
theorem d_La_law_775 : decode code 775 = .ok (.iconst 0, 1) := by decide +kernel
theorem d_La_law_776 : decode code 776 = .ok (.ireturn, 1) := by decide +kernel
theorem d_La_law_777 : decode code 777 = .ok (.goto 368, 3) := by decide +kernel
theorem d_La_law_780 : decode code 780 = .ok (.aload_n 1, 1) := by decide +kernel
theorem d_La_law_781 : decode code 781 = .ok (.aload_n 0, 1) := by decide +kernel
theorem d_La_law_782 : decode code 782 = .ok (.iload 4, 2) := by decide +kernel
theorem d_La_law_784 : decode code 784 = .ok (.iconst 1, 1) := by decide +kernel
theorem d_La_law_785 : decode code 785 = .ok (.iadd, 1) := by decide +kernel
theorem d_La_law_786 : decode code 786 = .ok (.iaload, 1) := by decide +kernel
theorem d_La_law_787 : decode code 787 = .ok (.aload_n 0, 1) := by decide +kernel
theorem d_La_law_788 : decode code 788 = .ok (.iload 4, 2) := by decide +kernel
theorem d_La_law_790 : decode code 790 = .ok (.iconst 2, 1) := by decide +kernel
theorem d_La_law_791 : decode code 791 = .ok (.iadd, 1) := by decide +kernel
theorem d_La_law_792 : decode code 792 = .ok (.iaload, 1) := by decide +kernel
theorem d_La_law_793 : decode code 793 = .ok (.aload_n 3, 1) := by decide +kernel
theorem d_La_law_794 : decode code 794 = .ok (.invokestatic 117, 3) := by decide +kernel
theorem d_La_law_797 : decode code 797 = .ok (.istore 5, 2) := by decide +kernel
theorem d_La_law_799 : decode code 799 = .ok (.aload_n 2, 1) := by decide +kernel
theorem d_La_law_800 : decode code 800 = .ok (.aload_n 0, 1) := by decide +kernel
theorem d_La_law_801 : decode code 801 = .ok (.iload 4, 2) := by decide +kernel
theorem d_La_law_803 : decode code 803 = .ok (.iconst 1, 1) := by decide +kernel
theorem d_La_law_804 : decode code 804 = .ok (.iadd, 1) := by decide +kernel
theorem d_La_law_805 : decode code 805 = .ok (.iaload, 1) := by decide +kernel
theorem d_La_law_806 : decode code 806 = .ok (.aload_n 0, 1) := by decide +kernel
theorem d_La_law_807 : decode code 807 = .ok (.iload 4, 2) := by decide +kernel
theorem d_La_law_809 : decode code 809 = .ok (.iconst 2, 1) := by decide +kernel
theorem d_La_law_810 : decode code 810 = .ok (.iadd, 1) := by decide +kernel
theorem d_La_law_811 : decode code 811 = .ok (.iaload, 1) := by decide +kernel
theorem d_La_law_812 : decode code 812 = .ok (.invokevirtual 119, 3) := by decide +kernel
theorem d_La_law_815 : decode code 815 = .ok (.istore 6, 2) := by decide +kernel
theorem d_La_law_817 : decode code 817 = .ok (.aload_n 2, 1) := by decide +kernel
theorem d_La_law_818 : decode code 818 = .ok (.invokevirtual 81, 3) := by decide +kernel
theorem d_La_law_821 : decode code 821 = .ok (.iload 5, 2) := by decide +kernel
theorem d_La_law_823 : decode code 823 = .ok (.if_icmp .eq 5, 3) := by decide +kernel
theorem d_La_law_826 : decode code 826 = .ok (.iconst 0, 1) := by decide +kernel
theorem d_La_law_827 : decode code 827 = .ok (.ireturn, 1) := by decide +kernel
theorem d_La_law_828 : decode code 828 = .ok (.iload 5, 2) := by decide +kernel
theorem d_La_law_830 : decode code 830 = .ok (.ifCond .ne 15, 3) := by decide +kernel
theorem d_La_law_833 : decode code 833 = .ok (.aload_n 3, 1) := by decide +kernel
theorem d_La_law_834 : decode code 834 = .ok (.iconst 0, 1) := by decide +kernel
theorem d_La_law_835 : decode code 835 = .ok (.laload, 1) := by decide +kernel
theorem d_La_law_836 : decode code 836 = .ok (.iload 6, 2) := by decide +kernel
theorem d_La_law_838 : decode code 838 = .ok (.i2l, 1) := by decide +kernel
theorem d_La_law_839 : decode code 839 = .ok (.lcmp, 1) := by decide +kernel
theorem d_La_law_840 : decode code 840 = .ok (.ifCond .eq 5, 3) := by decide +kernel
theorem d_La_law_843 : decode code 843 = .ok (.iconst 0, 1) := by decide +kernel
theorem d_La_law_844 : decode code 844 = .ok (.ireturn, 1) := by decide +kernel
theorem d_La_law_845 : decode code 845 = .ok (.goto 300, 3) := by decide +kernel
theorem d_La_law_848 : decode code 848 = .ok (.aload_n 1, 1) := by decide +kernel
theorem d_La_law_849 : decode code 849 = .ok (.aload_n 0, 1) := by decide +kernel
theorem d_La_law_850 : decode code 850 = .ok (.iload 4, 2) := by decide +kernel
theorem d_La_law_852 : decode code 852 = .ok (.iconst 1, 1) := by decide +kernel
theorem d_La_law_853 : decode code 853 = .ok (.iadd, 1) := by decide +kernel
theorem d_La_law_854 : decode code 854 = .ok (.iaload, 1) := by decide +kernel
theorem d_La_law_855 : decode code 855 = .ok (.aload_n 0, 1) := by decide +kernel
theorem d_La_law_856 : decode code 856 = .ok (.iload 4, 2) := by decide +kernel
theorem d_La_law_858 : decode code 858 = .ok (.iconst 2, 1) := by decide +kernel
theorem d_La_law_859 : decode code 859 = .ok (.iadd, 1) := by decide +kernel
theorem d_La_law_860 : decode code 860 = .ok (.iaload, 1) := by decide +kernel
theorem d_La_law_861 : decode code 861 = .ok (.aload_n 3, 1) := by decide +kernel
theorem d_La_law_862 : decode code 862 = .ok (.invokestatic 120, 3) := by decide +kernel
theorem d_La_law_865 : decode code 865 = .ok (.istore 5, 2) := by decide +kernel
theorem d_La_law_867 : decode code 867 = .ok (.aload_n 2, 1) := by decide +kernel
theorem d_La_law_868 : decode code 868 = .ok (.aload_n 0, 1) := by decide +kernel
theorem d_La_law_869 : decode code 869 = .ok (.iload 4, 2) := by decide +kernel
theorem d_La_law_871 : decode code 871 = .ok (.iconst 1, 1) := by decide +kernel
theorem d_La_law_872 : decode code 872 = .ok (.iadd, 1) := by decide +kernel
theorem d_La_law_873 : decode code 873 = .ok (.iaload, 1) := by decide +kernel
theorem d_La_law_874 : decode code 874 = .ok (.aload_n 0, 1) := by decide +kernel
theorem d_La_law_875 : decode code 875 = .ok (.iload 4, 2) := by decide +kernel
theorem d_La_law_877 : decode code 877 = .ok (.iconst 2, 1) := by decide +kernel
theorem d_La_law_878 : decode code 878 = .ok (.iadd, 1) := by decide +kernel
theorem d_La_law_879 : decode code 879 = .ok (.iaload, 1) := by decide +kernel
theorem d_La_law_880 : decode code 880 = .ok (.invokevirtual 122, 3) := by decide +kernel
theorem d_La_law_883 : decode code 883 = .ok (.istore 6, 2) := by decide +kernel
theorem d_La_law_885 : decode code 885 = .ok (.aload_n 2, 1) := by decide +kernel
theorem d_La_law_886 : decode code 886 = .ok (.invokevirtual 81, 3) := by decide +kernel
theorem d_La_law_889 : decode code 889 = .ok (.iload 5, 2) := by decide +kernel
theorem d_La_law_891 : decode code 891 = .ok (.if_icmp .eq 5, 3) := by decide +kernel
theorem d_La_law_894 : decode code 894 = .ok (.iconst 0, 1) := by decide +kernel
theorem d_La_law_895 : decode code 895 = .ok (.ireturn, 1) := by decide +kernel
theorem d_La_law_896 : decode code 896 = .ok (.iload 5, 2) := by decide +kernel
theorem d_La_law_898 : decode code 898 = .ok (.ifCond .ne 15, 3) := by decide +kernel
theorem d_La_law_901 : decode code 901 = .ok (.aload_n 3, 1) := by decide +kernel
theorem d_La_law_902 : decode code 902 = .ok (.iconst 0, 1) := by decide +kernel
theorem d_La_law_903 : decode code 903 = .ok (.laload, 1) := by decide +kernel
theorem d_La_law_904 : decode code 904 = .ok (.iload 6, 2) := by decide +kernel
theorem d_La_law_906 : decode code 906 = .ok (.i2l, 1) := by decide +kernel
theorem d_La_law_907 : decode code 907 = .ok (.lcmp, 1) := by decide +kernel
theorem d_La_law_908 : decode code 908 = .ok (.ifCond .eq 5, 3) := by decide +kernel
theorem d_La_law_911 : decode code 911 = .ok (.iconst 0, 1) := by decide +kernel
theorem d_La_law_912 : decode code 912 = .ok (.ireturn, 1) := by decide +kernel
theorem d_La_law_913 : decode code 913 = .ok (.goto 232, 3) := by decide +kernel
theorem d_La_law_916 : decode code 916 = .ok (.aload_n 1, 1) := by decide +kernel
theorem d_La_law_917 : decode code 917 = .ok (.aload_n 0, 1) := by decide +kernel
theorem d_La_law_918 : decode code 918 = .ok (.iload 4, 2) := by decide +kernel
theorem d_La_law_920 : decode code 920 = .ok (.iconst 1, 1) := by decide +kernel
theorem d_La_law_921 : decode code 921 = .ok (.iadd, 1) := by decide +kernel
theorem d_La_law_922 : decode code 922 = .ok (.iaload, 1) := by decide +kernel
theorem d_La_law_923 : decode code 923 = .ok (.aload_n 0, 1) := by decide +kernel
theorem d_La_law_924 : decode code 924 = .ok (.iload 4, 2) := by decide +kernel
theorem d_La_law_926 : decode code 926 = .ok (.iconst 2, 1) := by decide +kernel
theorem d_La_law_927 : decode code 927 = .ok (.iadd, 1) := by decide +kernel
theorem d_La_law_928 : decode code 928 = .ok (.iaload, 1) := by decide +kernel
theorem d_La_law_929 : decode code 929 = .ok (.aload_n 3, 1) := by decide +kernel
theorem d_La_law_930 : decode code 930 = .ok (.invokestatic 123, 3) := by decide +kernel
theorem d_La_law_933 : decode code 933 = .ok (.istore 5, 2) := by decide +kernel
theorem d_La_law_935 : decode code 935 = .ok (.aload_n 2, 1) := by decide +kernel
theorem d_La_law_936 : decode code 936 = .ok (.aload_n 0, 1) := by decide +kernel
theorem d_La_law_937 : decode code 937 = .ok (.iload 4, 2) := by decide +kernel
theorem d_La_law_939 : decode code 939 = .ok (.iconst 1, 1) := by decide +kernel
theorem d_La_law_940 : decode code 940 = .ok (.iadd, 1) := by decide +kernel
theorem d_La_law_941 : decode code 941 = .ok (.iaload, 1) := by decide +kernel
theorem d_La_law_942 : decode code 942 = .ok (.aload_n 0, 1) := by decide +kernel
theorem d_La_law_943 : decode code 943 = .ok (.iload 4, 2) := by decide +kernel
theorem d_La_law_945 : decode code 945 = .ok (.iconst 2, 1) := by decide +kernel
theorem d_La_law_946 : decode code 946 = .ok (.iadd, 1) := by decide +kernel
theorem d_La_law_947 : decode code 947 = .ok (.iaload, 1) := by decide +kernel
theorem d_La_law_948 : decode code 948 = .ok (.invokevirtual 125, 3) := by decide +kernel
theorem d_La_law_951 : decode code 951 = .ok (.istore 6, 2) := by decide +kernel
theorem d_La_law_953 : decode code 953 = .ok (.aload_n 2, 1) := by decide +kernel
theorem d_La_law_954 : decode code 954 = .ok (.invokevirtual 81, 3) := by decide +kernel
theorem d_La_law_957 : decode code 957 = .ok (.iload 5, 2) := by decide +kernel
theorem d_La_law_959 : decode code 959 = .ok (.if_icmp .eq 5, 3) := by decide +kernel
theorem d_La_law_962 : decode code 962 = .ok (.iconst 0, 1) := by decide +kernel
theorem d_La_law_963 : decode code 963 = .ok (.ireturn, 1) := by decide +kernel
theorem d_La_law_964 : decode code 964 = .ok (.iload 5, 2) := by decide +kernel
theorem d_La_law_966 : decode code 966 = .ok (.ifCond .ne 15, 3) := by decide +kernel
theorem d_La_law_969 : decode code 969 = .ok (.aload_n 3, 1) := by decide +kernel
theorem d_La_law_970 : decode code 970 = .ok (.iconst 0, 1) := by decide +kernel
theorem d_La_law_971 : decode code 971 = .ok (.laload, 1) := by decide +kernel
theorem d_La_law_972 : decode code 972 = .ok (.iload 6, 2) := by decide +kernel
theorem d_La_law_974 : decode code 974 = .ok (.i2l, 1) := by decide +kernel
theorem d_La_law_975 : decode code 975 = .ok (.lcmp, 1) := by decide +kernel
theorem d_La_law_976 : decode code 976 = .ok (.ifCond .eq 5, 3) := by decide +kernel
theorem d_La_law_979 : decode code 979 = .ok (.iconst 0, 1) := by decide +kernel
theorem d_La_law_980 : decode code 980 = .ok (.ireturn, 1) := by decide +kernel
theorem d_La_law_981 : decode code 981 = .ok (.goto 164, 3) := by decide +kernel
theorem d_La_law_984 : decode code 984 = .ok (.aload_n 1, 1) := by decide +kernel
theorem d_La_law_985 : decode code 985 = .ok (.aload_n 0, 1) := by decide +kernel
theorem d_La_law_986 : decode code 986 = .ok (.iload 4, 2) := by decide +kernel
theorem d_La_law_988 : decode code 988 = .ok (.iconst 1, 1) := by decide +kernel
theorem d_La_law_989 : decode code 989 = .ok (.iadd, 1) := by decide +kernel
theorem d_La_law_990 : decode code 990 = .ok (.iaload, 1) := by decide +kernel
theorem d_La_law_991 : decode code 991 = .ok (.aload_n 0, 1) := by decide +kernel
theorem d_La_law_992 : decode code 992 = .ok (.iload 4, 2) := by decide +kernel
theorem d_La_law_994 : decode code 994 = .ok (.iconst 2, 1) := by decide +kernel
theorem d_La_law_995 : decode code 995 = .ok (.iadd, 1) := by decide +kernel
theorem d_La_law_996 : decode code 996 = .ok (.iaload, 1) := by decide +kernel
theorem d_La_law_997 : decode code 997 = .ok (.aload_n 3, 1) := by decide +kernel
theorem d_La_law_998 : decode code 998 = .ok (.invokestatic 126, 3) := by decide +kernel
theorem d_La_law_1001 : decode code 1001 = .ok (.istore 5, 2) := by decide +kernel
theorem d_La_law_1003 : decode code 1003 = .ok (.aload_n 2, 1) := by decide +kernel
theorem d_La_law_1004 : decode code 1004 = .ok (.aload_n 0, 1) := by decide +kernel
theorem d_La_law_1005 : decode code 1005 = .ok (.iload 4, 2) := by decide +kernel
theorem d_La_law_1007 : decode code 1007 = .ok (.iconst 1, 1) := by decide +kernel
theorem d_La_law_1008 : decode code 1008 = .ok (.iadd, 1) := by decide +kernel
theorem d_La_law_1009 : decode code 1009 = .ok (.iaload, 1) := by decide +kernel
theorem d_La_law_1010 : decode code 1010 = .ok (.aload_n 0, 1) := by decide +kernel
theorem d_La_law_1011 : decode code 1011 = .ok (.iload 4, 2) := by decide +kernel
theorem d_La_law_1013 : decode code 1013 = .ok (.iconst 2, 1) := by decide +kernel
theorem d_La_law_1014 : decode code 1014 = .ok (.iadd, 1) := by decide +kernel
theorem d_La_law_1015 : decode code 1015 = .ok (.iaload, 1) := by decide +kernel
theorem d_La_law_1016 : decode code 1016 = .ok (.invokevirtual 128, 3) := by decide +kernel
theorem d_La_law_1019 : decode code 1019 = .ok (.istore 6, 2) := by decide +kernel
theorem d_La_law_1021 : decode code 1021 = .ok (.aload_n 2, 1) := by decide +kernel
theorem d_La_law_1022 : decode code 1022 = .ok (.invokevirtual 81, 3) := by decide +kernel
theorem d_La_law_1025 : decode code 1025 = .ok (.iload 5, 2) := by decide +kernel
theorem d_La_law_1027 : decode code 1027 = .ok (.if_icmp .eq 5, 3) := by decide +kernel
theorem d_La_law_1030 : decode code 1030 = .ok (.iconst 0, 1) := by decide +kernel
theorem d_La_law_1031 : decode code 1031 = .ok (.ireturn, 1) := by decide +kernel
theorem d_La_law_1032 : decode code 1032 = .ok (.iload 5, 2) := by decide +kernel
theorem d_La_law_1034 : decode code 1034 = .ok (.ifCond .ne 15, 3) := by decide +kernel
theorem d_La_law_1037 : decode code 1037 = .ok (.aload_n 3, 1) := by decide +kernel
theorem d_La_law_1038 : decode code 1038 = .ok (.iconst 0, 1) := by decide +kernel
theorem d_La_law_1039 : decode code 1039 = .ok (.laload, 1) := by decide +kernel
theorem d_La_law_1040 : decode code 1040 = .ok (.iload 6, 2) := by decide +kernel
theorem d_La_law_1042 : decode code 1042 = .ok (.i2l, 1) := by decide +kernel
theorem d_La_law_1043 : decode code 1043 = .ok (.lcmp, 1) := by decide +kernel
theorem d_La_law_1044 : decode code 1044 = .ok (.ifCond .eq 5, 3) := by decide +kernel
theorem d_La_law_1047 : decode code 1047 = .ok (.iconst 0, 1) := by decide +kernel
theorem d_La_law_1048 : decode code 1048 = .ok (.ireturn, 1) := by decide +kernel
theorem d_La_law_1049 : decode code 1049 = .ok (.goto 96, 3) := by decide +kernel
theorem d_La_law_1052 : decode code 1052 = .ok (.aload_n 1, 1) := by decide +kernel
theorem d_La_law_1053 : decode code 1053 = .ok (.aload_n 0, 1) := by decide +kernel
theorem d_La_law_1054 : decode code 1054 = .ok (.iload 4, 2) := by decide +kernel
theorem d_La_law_1056 : decode code 1056 = .ok (.iconst 1, 1) := by decide +kernel
theorem d_La_law_1057 : decode code 1057 = .ok (.iadd, 1) := by decide +kernel
theorem d_La_law_1058 : decode code 1058 = .ok (.iaload, 1) := by decide +kernel
theorem d_La_law_1059 : decode code 1059 = .ok (.aload_n 0, 1) := by decide +kernel
theorem d_La_law_1060 : decode code 1060 = .ok (.iload 4, 2) := by decide +kernel
theorem d_La_law_1062 : decode code 1062 = .ok (.iconst 2, 1) := by decide +kernel
theorem d_La_law_1063 : decode code 1063 = .ok (.iadd, 1) := by decide +kernel
theorem d_La_law_1064 : decode code 1064 = .ok (.iaload, 1) := by decide +kernel
theorem d_La_law_1065 : decode code 1065 = .ok (.aload_n 3, 1) := by decide +kernel
theorem d_La_law_1066 : decode code 1066 = .ok (.invokestatic 129, 3) := by decide +kernel
theorem d_La_law_1069 : decode code 1069 = .ok (.istore 5, 2) := by decide +kernel
theorem d_La_law_1071 : decode code 1071 = .ok (.aload_n 2, 1) := by decide +kernel
theorem d_La_law_1072 : decode code 1072 = .ok (.aload_n 0, 1) := by decide +kernel
theorem d_La_law_1073 : decode code 1073 = .ok (.iload 4, 2) := by decide +kernel
theorem d_La_law_1075 : decode code 1075 = .ok (.iconst 1, 1) := by decide +kernel
theorem d_La_law_1076 : decode code 1076 = .ok (.iadd, 1) := by decide +kernel
theorem d_La_law_1077 : decode code 1077 = .ok (.iaload, 1) := by decide +kernel
theorem d_La_law_1078 : decode code 1078 = .ok (.aload_n 0, 1) := by decide +kernel
theorem d_La_law_1079 : decode code 1079 = .ok (.iload 4, 2) := by decide +kernel
theorem d_La_law_1081 : decode code 1081 = .ok (.iconst 2, 1) := by decide +kernel
theorem d_La_law_1082 : decode code 1082 = .ok (.iadd, 1) := by decide +kernel
theorem d_La_law_1083 : decode code 1083 = .ok (.iaload, 1) := by decide +kernel
theorem d_La_law_1084 : decode code 1084 = .ok (.invokevirtual 131, 3) := by decide +kernel
theorem d_La_law_1087 : decode code 1087 = .ok (.istore 6, 2) := by decide +kernel
theorem d_La_law_1089 : decode code 1089 = .ok (.aload_n 2, 1) := by decide +kernel
theorem d_La_law_1090 : decode code 1090 = .ok (.invokevirtual 81, 3) := by decide +kernel
theorem d_La_law_1093 : decode code 1093 = .ok (.iload 5, 2) := by decide +kernel
theorem d_La_law_1095 : decode code 1095 = .ok (.if_icmp .eq 5, 3) := by decide +kernel
theorem d_La_law_1098 : decode code 1098 = .ok (.iconst 0, 1) := by decide +kernel
theorem d_La_law_1099 : decode code 1099 = .ok (.ireturn, 1) := by decide +kernel
theorem d_La_law_1100 : decode code 1100 = .ok (.iload 5, 2) := by decide +kernel
theorem d_La_law_1102 : decode code 1102 = .ok (.ifCond .ne 15, 3) := by decide +kernel
theorem d_La_law_1105 : decode code 1105 = .ok (.aload_n 3, 1) := by decide +kernel
theorem d_La_law_1106 : decode code 1106 = .ok (.iconst 0, 1) := by decide +kernel
theorem d_La_law_1107 : decode code 1107 = .ok (.laload, 1) := by decide +kernel
theorem d_La_law_1108 : decode code 1108 = .ok (.iload 6, 2) := by decide +kernel
theorem d_La_law_1110 : decode code 1110 = .ok (.i2l, 1) := by decide +kernel
theorem d_La_law_1111 : decode code 1111 = .ok (.lcmp, 1) := by decide +kernel
theorem d_La_law_1112 : decode code 1112 = .ok (.ifCond .eq 5, 3) := by decide +kernel
theorem d_La_law_1115 : decode code 1115 = .ok (.iconst 0, 1) := by decide +kernel
theorem d_La_law_1116 : decode code 1116 = .ok (.ireturn, 1) := by decide +kernel
theorem d_La_law_1117 : decode code 1117 = .ok (.goto 28, 3) := by decide +kernel
theorem d_La_law_1120 : decode code 1120 = .ok (.aload_n 1, 1) := by decide +kernel
theorem d_La_law_1121 : decode code 1121 = .ok (.aload_n 0, 1) := by decide +kernel
theorem d_La_law_1122 : decode code 1122 = .ok (.iload 4, 2) := by decide +kernel
theorem d_La_law_1124 : decode code 1124 = .ok (.iconst 1, 1) := by decide +kernel
theorem d_La_law_1125 : decode code 1125 = .ok (.iadd, 1) := by decide +kernel
theorem d_La_law_1126 : decode code 1126 = .ok (.iaload, 1) := by decide +kernel
theorem d_La_law_1127 : decode code 1127 = .ok (.invokevirtual 132, 3) := by decide +kernel
theorem d_La_law_1130 : decode code 1130 = .ok (.aload_n 2, 1) := by decide +kernel
theorem d_La_law_1131 : decode code 1131 = .ok (.aload_n 0, 1) := by decide +kernel
theorem d_La_law_1132 : decode code 1132 = .ok (.iload 4, 2) := by decide +kernel
theorem d_La_law_1134 : decode code 1134 = .ok (.iconst 1, 1) := by decide +kernel
theorem d_La_law_1135 : decode code 1135 = .ok (.iadd, 1) := by decide +kernel
theorem d_La_law_1136 : decode code 1136 = .ok (.iaload, 1) := by decide +kernel
theorem d_La_law_1137 : decode code 1137 = .ok (.invokevirtual 135, 3) := by decide +kernel
theorem d_La_law_1140 : decode code 1140 = .ok (.if_icmp .eq 5, 3) := by decide +kernel
theorem d_La_law_1143 : decode code 1143 = .ok (.iconst 0, 1) := by decide +kernel
theorem d_La_law_1144 : decode code 1144 = .ok (.ireturn, 1) := by decide +kernel
theorem d_La_law_1145 : decode code 1145 = .ok (.iinc 4 5, 3) := by decide +kernel
theorem d_La_law_1148 : decode code 1148 = .ok (.goto (-1125), 3) := by decide +kernel
theorem d_La_law_1151 : decode code 1151 = .ok (.iconst 1, 1) := by decide +kernel
theorem d_La_law_1152 : decode code 1152 = .ok (.ireturn, 1) := by decide +kernel
