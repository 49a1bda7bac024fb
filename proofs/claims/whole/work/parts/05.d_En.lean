theorem d_En_init_0 : decode b_En_init 0 = .ok (.aload_n 0, 1) := by decide +kernel
theorem d_En_init_1 : decode b_En_init 1 = .ok (.invokespecial 3, 3) := by decide +kernel
theorem d_En_init_4 : decode b_En_init 4 = .ok (.aload_n 0, 1) := by decide +kernel
theorem d_En_init_5 : decode b_En_init 5 = .ok (.iconst 3, 1) := by decide +kernel
theorem d_En_init_6 : decode b_En_init 6 = .ok (.newarray .int, 2) := by decide +kernel
theorem d_En_init_8 : decode b_En_init 8 = .ok (.putfield 9, 3) := by decide +kernel
theorem d_En_init_11 : decode b_En_init 11 = .ok (.aload_n 0, 1) := by decide +kernel
theorem d_En_init_12 : decode b_En_init 12 = .ok (.iconst 3, 1) := by decide +kernel
theorem d_En_init_13 : decode b_En_init 13 = .ok (.newarray .int, 2) := by decide +kernel
theorem d_En_init_15 : decode b_En_init 15 = .ok (.putfield 15, 3) := by decide +kernel
theorem d_En_init_18 : decode b_En_init 18 = .ok (.aload_n 0, 1) := by decide +kernel
theorem d_En_init_19 : decode b_En_init 19 = .ok (.iconst (-1), 1) := by decide +kernel
theorem d_En_init_20 : decode b_En_init 20 = .ok (.putfield 18, 3) := by decide +kernel
theorem d_En_init_23 : decode b_En_init 23 = .ok (.return_, 1) := by decide +kernel
theorem d_En_isOpen_0 : decode b_En_isOpen 0 = .ok (.aload_n 0, 1) := by decide +kernel
theorem d_En_isOpen_1 : decode b_En_isOpen 1 = .ok (.getfield 18, 3) := by decide +kernel
theorem d_En_isOpen_4 : decode b_En_isOpen 4 = .ok (.iconst (-1), 1) := by decide +kernel
theorem d_En_isOpen_5 : decode b_En_isOpen 5 = .ok (.if_icmp .eq 7, 3) := by decide +kernel
theorem d_En_isOpen_8 : decode b_En_isOpen 8 = .ok (.iconst 1, 1) := by decide +kernel
theorem d_En_isOpen_9 : decode b_En_isOpen 9 = .ok (.goto 4, 3) := by decide +kernel
theorem d_En_isOpen_12 : decode b_En_isOpen 12 = .ok (.iconst 0, 1) := by decide +kernel
theorem d_En_isOpen_13 : decode b_En_isOpen 13 = .ok (.ireturn, 1) := by decide +kernel
theorem d_En_begin_0 : decode b_En_begin 0 = .ok (.aload_n 0, 1) := by decide +kernel
theorem d_En_begin_1 : decode b_En_begin 1 = .ok (.iload_n 1, 1) := by decide +kernel
theorem d_En_begin_2 : decode b_En_begin 2 = .ok (.putfield 18, 3) := by decide +kernel
theorem d_En_begin_5 : decode b_En_begin 5 = .ok (.aload_n 0, 1) := by decide +kernel
theorem d_En_begin_6 : decode b_En_begin 6 = .ok (.iconst 1, 1) := by decide +kernel
theorem d_En_begin_7 : decode b_En_begin 7 = .ok (.putfield 22, 3) := by decide +kernel
theorem d_En_begin_10 : decode b_En_begin 10 = .ok (.return_, 1) := by decide +kernel
theorem d_En_addLast_0 : decode b_En_addLast 0 = .ok (.aload_n 0, 1) := by decide +kernel
theorem d_En_addLast_1 : decode b_En_addLast 1 = .ok (.getfield 25, 3) := by decide +kernel
theorem d_En_addLast_4 : decode b_En_addLast 4 = .ok (.iconst 3, 1) := by decide +kernel
theorem d_En_addLast_5 : decode b_En_addLast 5 = .ok (.if_icmp .ge 33, 3) := by decide +kernel
theorem d_En_addLast_8 : decode b_En_addLast 8 = .ok (.aload_n 0, 1) := by decide +kernel
theorem d_En_addLast_9 : decode b_En_addLast 9 = .ok (.getfield 9, 3) := by decide +kernel
theorem d_En_addLast_12 : decode b_En_addLast 12 = .ok (.aload_n 0, 1) := by decide +kernel
theorem d_En_addLast_13 : decode b_En_addLast 13 = .ok (.getfield 25, 3) := by decide +kernel
theorem d_En_addLast_16 : decode b_En_addLast 16 = .ok (.iload_n 1, 1) := by decide +kernel
theorem d_En_addLast_17 : decode b_En_addLast 17 = .ok (.iastore, 1) := by decide +kernel
theorem d_En_addLast_18 : decode b_En_addLast 18 = .ok (.aload_n 0, 1) := by decide +kernel
theorem d_En_addLast_19 : decode b_En_addLast 19 = .ok (.getfield 15, 3) := by decide +kernel
theorem d_En_addLast_22 : decode b_En_addLast 22 = .ok (.aload_n 0, 1) := by decide +kernel
theorem d_En_addLast_23 : decode b_En_addLast 23 = .ok (.getfield 25, 3) := by decide +kernel
theorem d_En_addLast_26 : decode b_En_addLast 26 = .ok (.iload_n 2, 1) := by decide +kernel
theorem d_En_addLast_27 : decode b_En_addLast 27 = .ok (.iastore, 1) := by decide +kernel
theorem d_En_addLast_28 : decode b_En_addLast 28 = .ok (.aload_n 0, 1) := by decide +kernel
theorem d_En_addLast_29 : decode b_En_addLast 29 = .ok (.dup, 1) := by decide +kernel
theorem d_En_addLast_30 : decode b_En_addLast 30 = .ok (.getfield 25, 3) := by decide +kernel
theorem d_En_addLast_33 : decode b_En_addLast 33 = .ok (.iconst 1, 1) := by decide +kernel
theorem d_En_addLast_34 : decode b_En_addLast 34 = .ok (.iadd, 1) := by decide +kernel
theorem d_En_addLast_35 : decode b_En_addLast 35 = .ok (.putfield 25, 3) := by decide +kernel
theorem d_En_addLast_38 : decode b_En_addLast 38 = .ok (.return_, 1) := by decide +kernel
theorem d_En_removeFirst_0 : decode b_En_removeFirst 0 = .ok (.iconst 1, 1) := by decide +kernel
theorem d_En_removeFirst_1 : decode b_En_removeFirst 1 = .ok (.istore_n 1, 1) := by decide +kernel
theorem d_En_removeFirst_2 : decode b_En_removeFirst 2 = .ok (.iload_n 1, 1) := by decide +kernel
theorem d_En_removeFirst_3 : decode b_En_removeFirst 3 = .ok (.aload_n 0, 1) := by decide +kernel
theorem d_En_removeFirst_4 : decode b_En_removeFirst 4 = .ok (.getfield 25, 3) := by decide +kernel
theorem d_En_removeFirst_7 : decode b_En_removeFirst 7 = .ok (.if_icmp .ge 37, 3) := by decide +kernel
theorem d_En_removeFirst_10 : decode b_En_removeFirst 10 = .ok (.aload_n 0, 1) := by decide +kernel
theorem d_En_removeFirst_11 : decode b_En_removeFirst 11 = .ok (.getfield 9, 3) := by decide +kernel
theorem d_En_removeFirst_14 : decode b_En_removeFirst 14 = .ok (.iload_n 1, 1) := by decide +kernel
theorem d_En_removeFirst_15 : decode b_En_removeFirst 15 = .ok (.iconst 1, 1) := by decide +kernel
theorem d_En_removeFirst_16 : decode b_En_removeFirst 16 = .ok (.isub, 1) := by decide +kernel
theorem d_En_removeFirst_17 : decode b_En_removeFirst 17 = .ok (.aload_n 0, 1) := by decide +kernel
theorem d_En_removeFirst_18 : decode b_En_removeFirst 18 = .ok (.getfield 9, 3) := by decide +kernel
theorem d_En_removeFirst_21 : decode b_En_removeFirst 21 = .ok (.iload_n 1, 1) := by decide +kernel
theorem d_En_removeFirst_22 : decode b_En_removeFirst 22 = .ok (.iaload, 1) := by decide +kernel
theorem d_En_removeFirst_23 : decode b_En_removeFirst 23 = .ok (.iastore, 1) := by decide +kernel
theorem d_En_removeFirst_24 : decode b_En_removeFirst 24 = .ok (.aload_n 0, 1) := by decide +kernel
theorem d_En_removeFirst_25 : decode b_En_removeFirst 25 = .ok (.getfield 15, 3) := by decide +kernel
theorem d_En_removeFirst_28 : decode b_En_removeFirst 28 = .ok (.iload_n 1, 1) := by decide +kernel
theorem d_En_removeFirst_29 : decode b_En_removeFirst 29 = .ok (.iconst 1, 1) := by decide +kernel
theorem d_En_removeFirst_30 : decode b_En_removeFirst 30 = .ok (.isub, 1) := by decide +kernel
theorem d_En_removeFirst_31 : decode b_En_removeFirst 31 = .ok (.aload_n 0, 1) := by decide +kernel
theorem d_En_removeFirst_32 : decode b_En_removeFirst 32 = .ok (.getfield 15, 3) := by decide +kernel
theorem d_En_removeFirst_35 : decode b_En_removeFirst 35 = .ok (.iload_n 1, 1) := by decide +kernel
theorem d_En_removeFirst_36 : decode b_En_removeFirst 36 = .ok (.iaload, 1) := by decide +kernel
theorem d_En_removeFirst_37 : decode b_En_removeFirst 37 = .ok (.iastore, 1) := by decide +kernel
theorem d_En_removeFirst_38 : decode b_En_removeFirst 38 = .ok (.iinc 1 1, 3) := by decide +kernel
theorem d_En_removeFirst_41 : decode b_En_removeFirst 41 = .ok (.goto (-39), 3) := by decide +kernel
theorem d_En_removeFirst_44 : decode b_En_removeFirst 44 = .ok (.aload_n 0, 1) := by decide +kernel
theorem d_En_removeFirst_45 : decode b_En_removeFirst 45 = .ok (.getfield 25, 3) := by decide +kernel
theorem d_En_removeFirst_48 : decode b_En_removeFirst 48 = .ok (.ifCond .le 13, 3) := by decide +kernel
theorem d_En_removeFirst_51 : decode b_En_removeFirst 51 = .ok (.aload_n 0, 1) := by decide +kernel
theorem d_En_removeFirst_52 : decode b_En_removeFirst 52 = .ok (.dup, 1) := by decide +kernel
theorem d_En_removeFirst_53 : decode b_En_removeFirst 53 = .ok (.getfield 25, 3) := by decide +kernel
theorem d_En_removeFirst_56 : decode b_En_removeFirst 56 = .ok (.iconst 1, 1) := by decide +kernel
theorem d_En_removeFirst_57 : decode b_En_removeFirst 57 = .ok (.isub, 1) := by decide +kernel
theorem d_En_removeFirst_58 : decode b_En_removeFirst 58 = .ok (.putfield 25, 3) := by decide +kernel
theorem d_En_removeFirst_61 : decode b_En_removeFirst 61 = .ok (.return_, 1) := by decide +kernel
