theorem d_Co_init_0 : decode b_Co_init 0 = .ok (.aload_n 0, 1) := by decide +kernel
theorem d_Co_init_1 : decode b_Co_init 1 = .ok (.invokespecial 3, 3) := by decide +kernel
theorem d_Co_init_4 : decode b_Co_init 4 = .ok (.aload_n 0, 1) := by decide +kernel
theorem d_Co_init_5 : decode b_Co_init 5 = .ok (.bipush 9, 2) := by decide +kernel
theorem d_Co_init_7 : decode b_Co_init 7 = .ok (.newarray .int, 2) := by decide +kernel
theorem d_Co_init_9 : decode b_Co_init 9 = .ok (.putfield 9, 3) := by decide +kernel
theorem d_Co_init_12 : decode b_Co_init 12 = .ok (.aload_n 0, 1) := by decide +kernel
theorem d_Co_init_13 : decode b_Co_init 13 = .ok (.bipush 9, 2) := by decide +kernel
theorem d_Co_init_15 : decode b_Co_init 15 = .ok (.newarray .int, 2) := by decide +kernel
theorem d_Co_init_17 : decode b_Co_init 17 = .ok (.putfield 15, 3) := by decide +kernel
theorem d_Co_init_20 : decode b_Co_init 20 = .ok (.aload_n 0, 1) := by decide +kernel
theorem d_Co_init_21 : decode b_Co_init 21 = .ok (.bipush 9, 2) := by decide +kernel
theorem d_Co_init_23 : decode b_Co_init 23 = .ok (.newarray .int, 2) := by decide +kernel
theorem d_Co_init_25 : decode b_Co_init 25 = .ok (.putfield 18, 3) := by decide +kernel
theorem d_Co_init_28 : decode b_Co_init 28 = .ok (.aload_n 0, 1) := by decide +kernel
theorem d_Co_init_29 : decode b_Co_init 29 = .ok (.bipush 9, 2) := by decide +kernel
theorem d_Co_init_31 : decode b_Co_init 31 = .ok (.newarray .int, 2) := by decide +kernel
theorem d_Co_init_33 : decode b_Co_init 33 = .ok (.putfield 21, 3) := by decide +kernel
theorem d_Co_init_36 : decode b_Co_init 36 = .ok (.return_, 1) := by decide +kernel
theorem d_Co_isNone_0 : decode b_Co_isNone 0 = .ok (.aload_n 0, 1) := by decide +kernel
theorem d_Co_isNone_1 : decode b_Co_isNone 1 = .ok (.getfield 24, 3) := by decide +kernel
theorem d_Co_isNone_4 : decode b_Co_isNone 4 = .ok (.ifCond .ne 7, 3) := by decide +kernel
theorem d_Co_isNone_7 : decode b_Co_isNone 7 = .ok (.iconst 1, 1) := by decide +kernel
theorem d_Co_isNone_8 : decode b_Co_isNone 8 = .ok (.goto 4, 3) := by decide +kernel
theorem d_Co_isNone_11 : decode b_Co_isNone 11 = .ok (.iconst 0, 1) := by decide +kernel
theorem d_Co_isNone_12 : decode b_Co_isNone 12 = .ok (.ireturn, 1) := by decide +kernel
theorem d_Co_clear_0 : decode b_Co_clear 0 = .ok (.aload_n 0, 1) := by decide +kernel
theorem d_Co_clear_1 : decode b_Co_clear 1 = .ok (.iconst 0, 1) := by decide +kernel
theorem d_Co_clear_2 : decode b_Co_clear 2 = .ok (.putfield 24, 3) := by decide +kernel
theorem d_Co_clear_5 : decode b_Co_clear 5 = .ok (.return_, 1) := by decide +kernel
theorem d_Co_addRule_0 : decode b_Co_addRule 0 = .ok (.aload_n 0, 1) := by decide +kernel
theorem d_Co_addRule_1 : decode b_Co_addRule 1 = .ok (.getfield 24, 3) := by decide +kernel
theorem d_Co_addRule_4 : decode b_Co_addRule 4 = .ok (.bipush 9, 2) := by decide +kernel
theorem d_Co_addRule_6 : decode b_Co_addRule 6 = .ok (.if_icmp .ge 16, 3) := by decide +kernel
theorem d_Co_addRule_9 : decode b_Co_addRule 9 = .ok (.aload_n 0, 1) := by decide +kernel
theorem d_Co_addRule_10 : decode b_Co_addRule 10 = .ok (.iload_n 1, 1) := by decide +kernel
theorem d_Co_addRule_11 : decode b_Co_addRule 11 = .ok (.iload_n 2, 1) := by decide +kernel
theorem d_Co_addRule_12 : decode b_Co_addRule 12 = .ok (.invokevirtual 28, 3) := by decide +kernel
theorem d_Co_addRule_15 : decode b_Co_addRule 15 = .ok (.aload_n 0, 1) := by decide +kernel
theorem d_Co_addRule_16 : decode b_Co_addRule 16 = .ok (.getfield 24, 3) := by decide +kernel
theorem d_Co_addRule_19 : decode b_Co_addRule 19 = .ok (.if_icmp .ge 5, 3) := by decide +kernel
theorem d_Co_addRule_22 : decode b_Co_addRule 22 = .ok (.iconst 0, 1) := by decide +kernel
theorem d_Co_addRule_23 : decode b_Co_addRule 23 = .ok (.ireturn, 1) := by decide +kernel
theorem d_Co_addRule_24 : decode b_Co_addRule 24 = .ok (.aload_n 0, 1) := by decide +kernel
theorem d_Co_addRule_25 : decode b_Co_addRule 25 = .ok (.getfield 9, 3) := by decide +kernel
theorem d_Co_addRule_28 : decode b_Co_addRule 28 = .ok (.aload_n 0, 1) := by decide +kernel
theorem d_Co_addRule_29 : decode b_Co_addRule 29 = .ok (.getfield 24, 3) := by decide +kernel
theorem d_Co_addRule_32 : decode b_Co_addRule 32 = .ok (.iload_n 1, 1) := by decide +kernel
theorem d_Co_addRule_33 : decode b_Co_addRule 33 = .ok (.iastore, 1) := by decide +kernel
theorem d_Co_addRule_34 : decode b_Co_addRule 34 = .ok (.aload_n 0, 1) := by decide +kernel
theorem d_Co_addRule_35 : decode b_Co_addRule 35 = .ok (.getfield 15, 3) := by decide +kernel
theorem d_Co_addRule_38 : decode b_Co_addRule 38 = .ok (.aload_n 0, 1) := by decide +kernel
theorem d_Co_addRule_39 : decode b_Co_addRule 39 = .ok (.getfield 24, 3) := by decide +kernel
theorem d_Co_addRule_42 : decode b_Co_addRule 42 = .ok (.iload_n 2, 1) := by decide +kernel
theorem d_Co_addRule_43 : decode b_Co_addRule 43 = .ok (.iastore, 1) := by decide +kernel
theorem d_Co_addRule_44 : decode b_Co_addRule 44 = .ok (.aload_n 0, 1) := by decide +kernel
theorem d_Co_addRule_45 : decode b_Co_addRule 45 = .ok (.getfield 18, 3) := by decide +kernel
theorem d_Co_addRule_48 : decode b_Co_addRule 48 = .ok (.aload_n 0, 1) := by decide +kernel
theorem d_Co_addRule_49 : decode b_Co_addRule 49 = .ok (.getfield 24, 3) := by decide +kernel
theorem d_Co_addRule_52 : decode b_Co_addRule 52 = .ok (.iload_n 3, 1) := by decide +kernel
theorem d_Co_addRule_53 : decode b_Co_addRule 53 = .ok (.iastore, 1) := by decide +kernel
theorem d_Co_addRule_54 : decode b_Co_addRule 54 = .ok (.aload_n 0, 1) := by decide +kernel
theorem d_Co_addRule_55 : decode b_Co_addRule 55 = .ok (.getfield 21, 3) := by decide +kernel
theorem d_Co_addRule_58 : decode b_Co_addRule 58 = .ok (.aload_n 0, 1) := by decide +kernel
theorem d_Co_addRule_59 : decode b_Co_addRule 59 = .ok (.getfield 24, 3) := by decide +kernel
theorem d_Co_addRule_62 : decode b_Co_addRule 62 = .ok (.iload 4, 2) := by decide +kernel
theorem d_Co_addRule_64 : decode b_Co_addRule 64 = .ok (.iastore, 1) := by decide +kernel
theorem d_Co_addRule_65 : decode b_Co_addRule 65 = .ok (.aload_n 0, 1) := by decide +kernel
theorem d_Co_addRule_66 : decode b_Co_addRule 66 = .ok (.dup, 1) := by decide +kernel
theorem d_Co_addRule_67 : decode b_Co_addRule 67 = .ok (.getfield 24, 3) := by decide +kernel
theorem d_Co_addRule_70 : decode b_Co_addRule 70 = .ok (.iconst 1, 1) := by decide +kernel
theorem d_Co_addRule_71 : decode b_Co_addRule 71 = .ok (.iadd, 1) := by decide +kernel
theorem d_Co_addRule_72 : decode b_Co_addRule 72 = .ok (.putfield 24, 3) := by decide +kernel
theorem d_Co_addRule_75 : decode b_Co_addRule 75 = .ok (.iconst 1, 1) := by decide +kernel
theorem d_Co_addRule_76 : decode b_Co_addRule 76 = .ok (.ireturn, 1) := by decide +kernel
theorem d_Co_become_0 : decode b_Co_become 0 = .ok (.aload_n 0, 1) := by decide +kernel
theorem d_Co_become_1 : decode b_Co_become 1 = .ok (.aload_n 1, 1) := by decide +kernel
theorem d_Co_become_2 : decode b_Co_become 2 = .ok (.getfield 24, 3) := by decide +kernel
theorem d_Co_become_5 : decode b_Co_become 5 = .ok (.putfield 24, 3) := by decide +kernel
theorem d_Co_become_8 : decode b_Co_become 8 = .ok (.iconst 0, 1) := by decide +kernel
theorem d_Co_become_9 : decode b_Co_become 9 = .ok (.istore_n 2, 1) := by decide +kernel
theorem d_Co_become_10 : decode b_Co_become 10 = .ok (.iload_n 2, 1) := by decide +kernel
theorem d_Co_become_11 : decode b_Co_become 11 = .ok (.aload_n 0, 1) := by decide +kernel
theorem d_Co_become_12 : decode b_Co_become 12 = .ok (.getfield 24, 3) := by decide +kernel
theorem d_Co_become_15 : decode b_Co_become 15 = .ok (.if_icmp .ge 57, 3) := by decide +kernel
theorem d_Co_become_18 : decode b_Co_become 18 = .ok (.aload_n 0, 1) := by decide +kernel
theorem d_Co_become_19 : decode b_Co_become 19 = .ok (.getfield 9, 3) := by decide +kernel
theorem d_Co_become_22 : decode b_Co_become 22 = .ok (.iload_n 2, 1) := by decide +kernel
theorem d_Co_become_23 : decode b_Co_become 23 = .ok (.aload_n 1, 1) := by decide +kernel
theorem d_Co_become_24 : decode b_Co_become 24 = .ok (.getfield 9, 3) := by decide +kernel
theorem d_Co_become_27 : decode b_Co_become 27 = .ok (.iload_n 2, 1) := by decide +kernel
theorem d_Co_become_28 : decode b_Co_become 28 = .ok (.iaload, 1) := by decide +kernel
theorem d_Co_become_29 : decode b_Co_become 29 = .ok (.iastore, 1) := by decide +kernel
theorem d_Co_become_30 : decode b_Co_become 30 = .ok (.aload_n 0, 1) := by decide +kernel
theorem d_Co_become_31 : decode b_Co_become 31 = .ok (.getfield 15, 3) := by decide +kernel
theorem d_Co_become_34 : decode b_Co_become 34 = .ok (.iload_n 2, 1) := by decide +kernel
theorem d_Co_become_35 : decode b_Co_become 35 = .ok (.aload_n 1, 1) := by decide +kernel
theorem d_Co_become_36 : decode b_Co_become 36 = .ok (.getfield 15, 3) := by decide +kernel
theorem d_Co_become_39 : decode b_Co_become 39 = .ok (.iload_n 2, 1) := by decide +kernel
theorem d_Co_become_40 : decode b_Co_become 40 = .ok (.iaload, 1) := by decide +kernel
theorem d_Co_become_41 : decode b_Co_become 41 = .ok (.iastore, 1) := by decide +kernel
theorem d_Co_become_42 : decode b_Co_become 42 = .ok (.aload_n 0, 1) := by decide +kernel
theorem d_Co_become_43 : decode b_Co_become 43 = .ok (.getfield 18, 3) := by decide +kernel
theorem d_Co_become_46 : decode b_Co_become 46 = .ok (.iload_n 2, 1) := by decide +kernel
theorem d_Co_become_47 : decode b_Co_become 47 = .ok (.aload_n 1, 1) := by decide +kernel
theorem d_Co_become_48 : decode b_Co_become 48 = .ok (.getfield 18, 3) := by decide +kernel
theorem d_Co_become_51 : decode b_Co_become 51 = .ok (.iload_n 2, 1) := by decide +kernel
theorem d_Co_become_52 : decode b_Co_become 52 = .ok (.iaload, 1) := by decide +kernel
theorem d_Co_become_53 : decode b_Co_become 53 = .ok (.iastore, 1) := by decide +kernel
theorem d_Co_become_54 : decode b_Co_become 54 = .ok (.aload_n 0, 1) := by decide +kernel
theorem d_Co_become_55 : decode b_Co_become 55 = .ok (.getfield 21, 3) := by decide +kernel
theorem d_Co_become_58 : decode b_Co_become 58 = .ok (.iload_n 2, 1) := by decide +kernel
theorem d_Co_become_59 : decode b_Co_become 59 = .ok (.aload_n 1, 1) := by decide +kernel
theorem d_Co_become_60 : decode b_Co_become 60 = .ok (.getfield 21, 3) := by decide +kernel
theorem d_Co_become_63 : decode b_Co_become 63 = .ok (.iload_n 2, 1) := by decide +kernel
theorem d_Co_become_64 : decode b_Co_become 64 = .ok (.iaload, 1) := by decide +kernel
theorem d_Co_become_65 : decode b_Co_become 65 = .ok (.iastore, 1) := by decide +kernel
theorem d_Co_become_66 : decode b_Co_become 66 = .ok (.iinc 2 1, 3) := by decide +kernel
theorem d_Co_become_69 : decode b_Co_become 69 = .ok (.goto (-59), 3) := by decide +kernel
theorem d_Co_become_72 : decode b_Co_become 72 = .ok (.return_, 1) := by decide +kernel
theorem d_Co_stateBehind_0 : decode b_Co_stateBehind 0 = .ok (.aload_n 0, 1) := by decide +kernel
theorem d_Co_stateBehind_1 : decode b_Co_stateBehind 1 = .ok (.iload_n 1, 1) := by decide +kernel
theorem d_Co_stateBehind_2 : decode b_Co_stateBehind 2 = .ok (.iload_n 2, 1) := by decide +kernel
theorem d_Co_stateBehind_3 : decode b_Co_stateBehind 3 = .ok (.invokevirtual 28, 3) := by decide +kernel
theorem d_Co_stateBehind_6 : decode b_Co_stateBehind 6 = .ok (.istore 4, 2) := by decide +kernel
theorem d_Co_stateBehind_8 : decode b_Co_stateBehind 8 = .ok (.iload 4, 2) := by decide +kernel
theorem d_Co_stateBehind_10 : decode b_Co_stateBehind 10 = .ok (.aload_n 0, 1) := by decide +kernel
theorem d_Co_stateBehind_11 : decode b_Co_stateBehind 11 = .ok (.getfield 24, 3) := by decide +kernel
theorem d_Co_stateBehind_14 : decode b_Co_stateBehind 14 = .ok (.if_icmp .ge 24, 3) := by decide +kernel
theorem d_Co_stateBehind_17 : decode b_Co_stateBehind 17 = .ok (.aload_n 0, 1) := by decide +kernel
theorem d_Co_stateBehind_18 : decode b_Co_stateBehind 18 = .ok (.getfield 18, 3) := by decide +kernel
theorem d_Co_stateBehind_21 : decode b_Co_stateBehind 21 = .ok (.iload 4, 2) := by decide +kernel
theorem d_Co_stateBehind_23 : decode b_Co_stateBehind 23 = .ok (.iaload, 1) := by decide +kernel
theorem d_Co_stateBehind_24 : decode b_Co_stateBehind 24 = .ok (.iload_n 3, 1) := by decide +kernel
theorem d_Co_stateBehind_25 : decode b_Co_stateBehind 25 = .ok (.if_icmp .ne 13, 3) := by decide +kernel
theorem d_Co_stateBehind_28 : decode b_Co_stateBehind 28 = .ok (.aload_n 0, 1) := by decide +kernel
theorem d_Co_stateBehind_29 : decode b_Co_stateBehind 29 = .ok (.getfield 21, 3) := by decide +kernel
theorem d_Co_stateBehind_32 : decode b_Co_stateBehind 32 = .ok (.iload 4, 2) := by decide +kernel
theorem d_Co_stateBehind_34 : decode b_Co_stateBehind 34 = .ok (.iaload, 1) := by decide +kernel
theorem d_Co_stateBehind_35 : decode b_Co_stateBehind 35 = .ok (.goto 4, 3) := by decide +kernel
theorem d_Co_stateBehind_38 : decode b_Co_stateBehind 38 = .ok (.iconst (-1), 1) := by decide +kernel
theorem d_Co_stateBehind_39 : decode b_Co_stateBehind 39 = .ok (.ireturn, 1) := by decide +kernel
theorem d_Co_ruleFor_0 : decode b_Co_ruleFor 0 = .ok (.iconst 0, 1) := by decide +kernel
theorem d_Co_ruleFor_1 : decode b_Co_ruleFor 1 = .ok (.istore_n 3, 1) := by decide +kernel
theorem d_Co_ruleFor_2 : decode b_Co_ruleFor 2 = .ok (.iload_n 3, 1) := by decide +kernel
theorem d_Co_ruleFor_3 : decode b_Co_ruleFor 3 = .ok (.aload_n 0, 1) := by decide +kernel
theorem d_Co_ruleFor_4 : decode b_Co_ruleFor 4 = .ok (.getfield 24, 3) := by decide +kernel
theorem d_Co_ruleFor_7 : decode b_Co_ruleFor 7 = .ok (.if_icmp .ge 29, 3) := by decide +kernel
theorem d_Co_ruleFor_10 : decode b_Co_ruleFor 10 = .ok (.aload_n 0, 1) := by decide +kernel
theorem d_Co_ruleFor_11 : decode b_Co_ruleFor 11 = .ok (.getfield 9, 3) := by decide +kernel
theorem d_Co_ruleFor_14 : decode b_Co_ruleFor 14 = .ok (.iload_n 3, 1) := by decide +kernel
theorem d_Co_ruleFor_15 : decode b_Co_ruleFor 15 = .ok (.iaload, 1) := by decide +kernel
theorem d_Co_ruleFor_16 : decode b_Co_ruleFor 16 = .ok (.iload_n 1, 1) := by decide +kernel
theorem d_Co_ruleFor_17 : decode b_Co_ruleFor 17 = .ok (.if_icmp .ne 13, 3) := by decide +kernel
theorem d_Co_ruleFor_20 : decode b_Co_ruleFor 20 = .ok (.aload_n 0, 1) := by decide +kernel
theorem d_Co_ruleFor_21 : decode b_Co_ruleFor 21 = .ok (.getfield 15, 3) := by decide +kernel
theorem d_Co_ruleFor_24 : decode b_Co_ruleFor 24 = .ok (.iload_n 3, 1) := by decide +kernel
theorem d_Co_ruleFor_25 : decode b_Co_ruleFor 25 = .ok (.iaload, 1) := by decide +kernel
theorem d_Co_ruleFor_26 : decode b_Co_ruleFor 26 = .ok (.iload_n 2, 1) := by decide +kernel
theorem d_Co_ruleFor_27 : decode b_Co_ruleFor 27 = .ok (.if_icmp .eq 9, 3) := by decide +kernel
theorem d_Co_ruleFor_30 : decode b_Co_ruleFor 30 = .ok (.iinc 3 1, 3) := by decide +kernel
theorem d_Co_ruleFor_33 : decode b_Co_ruleFor 33 = .ok (.goto (-31), 3) := by decide +kernel
theorem d_Co_ruleFor_36 : decode b_Co_ruleFor 36 = .ok (.iload_n 3, 1) := by decide +kernel
theorem d_Co_ruleFor_37 : decode b_Co_ruleFor 37 = .ok (.ireturn, 1) := by decide +kernel
