theorem dX0_init_0 : decode cX0_init 0 = .ok (.aload_n 0, 1) := by decide +kernel
theorem dX0_init_1 : decode cX0_init 1 = .ok (.invokespecial 3, 3) := by decide +kernel
theorem dX0_init_4 : decode cX0_init 4 = .ok (.aload_n 0, 1) := by decide +kernel
theorem dX0_init_5 : decode cX0_init 5 = .ok (.bipush 8, 2) := by decide +kernel
theorem dX0_init_7 : decode cX0_init 7 = .ok (.newarray .int, 2) := by decide +kernel
theorem dX0_init_9 : decode cX0_init 9 = .ok (.putfield 9, 3) := by decide +kernel
theorem dX0_init_12 : decode cX0_init 12 = .ok (.aload_n 0, 1) := by decide +kernel
theorem dX0_init_13 : decode cX0_init 13 = .ok (.bipush 16, 2) := by decide +kernel
theorem dX0_init_15 : decode cX0_init 15 = .ok (.newarray .int, 2) := by decide +kernel
theorem dX0_init_17 : decode cX0_init 17 = .ok (.putfield 15, 3) := by decide +kernel
theorem dX0_init_20 : decode cX0_init 20 = .ok (.aload_n 0, 1) := by decide +kernel
theorem dX0_init_21 : decode cX0_init 21 = .ok (.bipush 8, 2) := by decide +kernel
theorem dX0_init_23 : decode cX0_init 23 = .ok (.putfield 18, 3) := by decide +kernel
theorem dX0_init_26 : decode cX0_init 26 = .ok (.aload_n 0, 1) := by decide +kernel
theorem dX0_init_27 : decode cX0_init 27 = .ok (.iconst 4, 1) := by decide +kernel
theorem dX0_init_28 : decode cX0_init 28 = .ok (.newarray .int, 2) := by decide +kernel
theorem dX0_init_30 : decode cX0_init 30 = .ok (.putfield 22, 3) := by decide +kernel
theorem dX0_init_33 : decode cX0_init 33 = .ok (.aload_n 0, 1) := by decide +kernel
theorem dX0_init_34 : decode cX0_init 34 = .ok (.iconst 4, 1) := by decide +kernel
theorem dX0_init_35 : decode cX0_init 35 = .ok (.newarray .int, 2) := by decide +kernel
theorem dX0_init_37 : decode cX0_init 37 = .ok (.putfield 25, 3) := by decide +kernel
theorem dX0_init_40 : decode cX0_init 40 = .ok (.aload_n 0, 1) := by decide +kernel
theorem dX0_init_41 : decode cX0_init 41 = .ok (.bipush 100, 2) := by decide +kernel
theorem dX0_init_43 : decode cX0_init 43 = .ok (.newarray .int, 2) := by decide +kernel
theorem dX0_init_45 : decode cX0_init 45 = .ok (.putfield 28, 3) := by decide +kernel
theorem dX0_init_48 : decode cX0_init 48 = .ok (.return_, 1) := by decide +kernel
theorem dX0_hasPlace_0 : decode cX0_hasPlace 0 = .ok (.iload_n 1, 1) := by decide +kernel
theorem dX0_hasPlace_1 : decode cX0_hasPlace 1 = .ok (.ifCond .lt 15, 3) := by decide +kernel
theorem dX0_hasPlace_4 : decode cX0_hasPlace 4 = .ok (.iload_n 1, 1) := by decide +kernel
theorem dX0_hasPlace_5 : decode cX0_hasPlace 5 = .ok (.aload_n 0, 1) := by decide +kernel
theorem dX0_hasPlace_6 : decode cX0_hasPlace 6 = .ok (.getfield 18, 3) := by decide +kernel
theorem dX0_hasPlace_9 : decode cX0_hasPlace 9 = .ok (.if_icmp .ge 7, 3) := by decide +kernel
theorem dX0_hasPlace_12 : decode cX0_hasPlace 12 = .ok (.iconst 1, 1) := by decide +kernel
theorem dX0_hasPlace_13 : decode cX0_hasPlace 13 = .ok (.goto 4, 3) := by decide +kernel
theorem dX0_hasPlace_16 : decode cX0_hasPlace 16 = .ok (.iconst 0, 1) := by decide +kernel
theorem dX0_hasPlace_17 : decode cX0_hasPlace 17 = .ok (.ireturn, 1) := by decide +kernel
theorem dX0_takeNote_0 : decode cX0_takeNote 0 = .ok (.aload_n 0, 1) := by decide +kernel
theorem dX0_takeNote_1 : decode cX0_takeNote 1 = .ok (.getfield 31, 3) := by decide +kernel
theorem dX0_takeNote_4 : decode cX0_takeNote 4 = .ok (.bipush 100, 2) := by decide +kernel
theorem dX0_takeNote_6 : decode cX0_takeNote 6 = .ok (.if_icmp .ge 23, 3) := by decide +kernel
theorem dX0_takeNote_9 : decode cX0_takeNote 9 = .ok (.aload_n 0, 1) := by decide +kernel
theorem dX0_takeNote_10 : decode cX0_takeNote 10 = .ok (.getfield 28, 3) := by decide +kernel
theorem dX0_takeNote_13 : decode cX0_takeNote 13 = .ok (.aload_n 0, 1) := by decide +kernel
theorem dX0_takeNote_14 : decode cX0_takeNote 14 = .ok (.getfield 31, 3) := by decide +kernel
theorem dX0_takeNote_17 : decode cX0_takeNote 17 = .ok (.iload_n 1, 1) := by decide +kernel
theorem dX0_takeNote_18 : decode cX0_takeNote 18 = .ok (.iastore, 1) := by decide +kernel
theorem dX0_takeNote_19 : decode cX0_takeNote 19 = .ok (.aload_n 0, 1) := by decide +kernel
theorem dX0_takeNote_20 : decode cX0_takeNote 20 = .ok (.dup, 1) := by decide +kernel
theorem dX0_takeNote_21 : decode cX0_takeNote 21 = .ok (.getfield 31, 3) := by decide +kernel
theorem dX0_takeNote_24 : decode cX0_takeNote 24 = .ok (.iconst 1, 1) := by decide +kernel
theorem dX0_takeNote_25 : decode cX0_takeNote 25 = .ok (.iadd, 1) := by decide +kernel
theorem dX0_takeNote_26 : decode cX0_takeNote 26 = .ok (.putfield 31, 3) := by decide +kernel
theorem dX0_takeNote_29 : decode cX0_takeNote 29 = .ok (.return_, 1) := by decide +kernel
theorem dX0_makeRow_0 : decode cX0_makeRow 0 = .ok (.iconst 0, 1) := by decide +kernel
theorem dX0_makeRow_1 : decode cX0_makeRow 1 = .ok (.istore_n 2, 1) := by decide +kernel
theorem dX0_makeRow_2 : decode cX0_makeRow 2 = .ok (.iload_n 2, 1) := by decide +kernel
theorem dX0_makeRow_3 : decode cX0_makeRow 3 = .ok (.bipush 16, 2) := by decide +kernel
theorem dX0_makeRow_5 : decode cX0_makeRow 5 = .ok (.if_icmp .ge 16, 3) := by decide +kernel
theorem dX0_makeRow_8 : decode cX0_makeRow 8 = .ok (.aload_n 0, 1) := by decide +kernel
theorem dX0_makeRow_9 : decode cX0_makeRow 9 = .ok (.getfield 15, 3) := by decide +kernel
theorem dX0_makeRow_12 : decode cX0_makeRow 12 = .ok (.iload_n 2, 1) := by decide +kernel
theorem dX0_makeRow_13 : decode cX0_makeRow 13 = .ok (.iconst 0, 1) := by decide +kernel
theorem dX0_makeRow_14 : decode cX0_makeRow 14 = .ok (.iastore, 1) := by decide +kernel
theorem dX0_makeRow_15 : decode cX0_makeRow 15 = .ok (.iinc 2 1, 3) := by decide +kernel
theorem dX0_makeRow_18 : decode cX0_makeRow 18 = .ok (.goto (-16), 3) := by decide +kernel
theorem dX0_makeRow_21 : decode cX0_makeRow 21 = .ok (.aload_n 0, 1) := by decide +kernel
theorem dX0_makeRow_22 : decode cX0_makeRow 22 = .ok (.iload_n 1, 1) := by decide +kernel
theorem dX0_makeRow_23 : decode cX0_makeRow 23 = .ok (.putfield 18, 3) := by decide +kernel
theorem dX0_makeRow_26 : decode cX0_makeRow 26 = .ok (.return_, 1) := by decide +kernel
theorem dX1_init_0 : decode cX1_init 0 = .ok (.aload_n 0, 1) := by decide +kernel
theorem dX1_init_1 : decode cX1_init 1 = .ok (.invokespecial 3, 3) := by decide +kernel
theorem dX1_init_4 : decode cX1_init 4 = .ok (.aload_n 0, 1) := by decide +kernel
theorem dX1_init_5 : decode cX1_init 5 = .ok (.bipush 60, 2) := by decide +kernel
theorem dX1_init_7 : decode cX1_init 7 = .ok (.newarray .int, 2) := by decide +kernel
theorem dX1_init_9 : decode cX1_init 9 = .ok (.putfield 11, 3) := by decide +kernel
theorem dX1_init_12 : decode cX1_init 12 = .ok (.aload_n 0, 1) := by decide +kernel
theorem dX1_init_13 : decode cX1_init 13 = .ok (.bipush 60, 2) := by decide +kernel
theorem dX1_init_15 : decode cX1_init 15 = .ok (.newarray .int, 2) := by decide +kernel
theorem dX1_init_17 : decode cX1_init 17 = .ok (.putfield 15, 3) := by decide +kernel
theorem dX1_init_20 : decode cX1_init 20 = .ok (.aload_n 0, 1) := by decide +kernel
theorem dX1_init_21 : decode cX1_init 21 = .ok (.bipush 60, 2) := by decide +kernel
theorem dX1_init_23 : decode cX1_init 23 = .ok (.newarray .int, 2) := by decide +kernel
theorem dX1_init_25 : decode cX1_init 25 = .ok (.putfield 18, 3) := by decide +kernel
theorem dX1_init_28 : decode cX1_init 28 = .ok (.aload_n 0, 1) := by decide +kernel
theorem dX1_init_29 : decode cX1_init 29 = .ok (.bipush 60, 2) := by decide +kernel
theorem dX1_init_31 : decode cX1_init 31 = .ok (.newarray .int, 2) := by decide +kernel
theorem dX1_init_33 : decode cX1_init 33 = .ok (.putfield 21, 3) := by decide +kernel
theorem dX1_init_36 : decode cX1_init 36 = .ok (.aload_n 0, 1) := by decide +kernel
theorem dX1_init_37 : decode cX1_init 37 = .ok (.sipush 960, 3) := by decide +kernel
theorem dX1_init_40 : decode cX1_init 40 = .ok (.newarray .int, 2) := by decide +kernel
theorem dX1_init_42 : decode cX1_init 42 = .ok (.putfield 24, 3) := by decide +kernel
theorem dX1_init_45 : decode cX1_init 45 = .ok (.aload_n 0, 1) := by decide +kernel
theorem dX1_init_46 : decode cX1_init 46 = .ok (.iconst (-1), 1) := by decide +kernel
theorem dX1_init_47 : decode cX1_init 47 = .ok (.putfield 27, 3) := by decide +kernel
theorem dX1_init_50 : decode cX1_init 50 = .ok (.return_, 1) := by decide +kernel
theorem dX1_enterScope_0 : decode cX1_enterScope 0 = .ok (.aload_n 0, 1) := by decide +kernel
theorem dX1_enterScope_1 : decode cX1_enterScope 1 = .ok (.getfield 27, 3) := by decide +kernel
theorem dX1_enterScope_4 : decode cX1_enterScope 4 = .ok (.istore_n 1, 1) := by decide +kernel
theorem dX1_enterScope_5 : decode cX1_enterScope 5 = .ok (.aload_n 0, 1) := by decide +kernel
theorem dX1_enterScope_6 : decode cX1_enterScope 6 = .ok (.aload_n 0, 1) := by decide +kernel
theorem dX1_enterScope_7 : decode cX1_enterScope 7 = .ok (.getfield 31, 3) := by decide +kernel
theorem dX1_enterScope_10 : decode cX1_enterScope 10 = .ok (.putfield 27, 3) := by decide +kernel
theorem dX1_enterScope_13 : decode cX1_enterScope 13 = .ok (.iload_n 1, 1) := by decide +kernel
theorem dX1_enterScope_14 : decode cX1_enterScope 14 = .ok (.ireturn, 1) := by decide +kernel
theorem dX1_leaveScope_0 : decode cX1_leaveScope 0 = .ok (.aload_n 0, 1) := by decide +kernel
theorem dX1_leaveScope_1 : decode cX1_leaveScope 1 = .ok (.iload_n 1, 1) := by decide +kernel
theorem dX1_leaveScope_2 : decode cX1_leaveScope 2 = .ok (.putfield 27, 3) := by decide +kernel
theorem dX1_leaveScope_5 : decode cX1_leaveScope 5 = .ok (.iload_n 1, 1) := by decide +kernel
theorem dX1_leaveScope_6 : decode cX1_leaveScope 6 = .ok (.iconst (-1), 1) := by decide +kernel
theorem dX1_leaveScope_7 : decode cX1_leaveScope 7 = .ok (.if_icmp .ne 8, 3) := by decide +kernel
theorem dX1_leaveScope_10 : decode cX1_leaveScope 10 = .ok (.aload_n 0, 1) := by decide +kernel
theorem dX1_leaveScope_11 : decode cX1_leaveScope 11 = .ok (.iconst 0, 1) := by decide +kernel
theorem dX1_leaveScope_12 : decode cX1_leaveScope 12 = .ok (.putfield 31, 3) := by decide +kernel
theorem dX1_leaveScope_15 : decode cX1_leaveScope 15 = .ok (.return_, 1) := by decide +kernel
theorem dX1_keep_0 : decode cX1_keep 0 = .ok (.aload_n 0, 1) := by decide +kernel
theorem dX1_keep_1 : decode cX1_keep 1 = .ok (.getfield 27, 3) := by decide +kernel
theorem dX1_keep_4 : decode cX1_keep 4 = .ok (.iconst (-1), 1) := by decide +kernel
theorem dX1_keep_5 : decode cX1_keep 5 = .ok (.if_icmp .eq 11, 3) := by decide +kernel
theorem dX1_keep_8 : decode cX1_keep 8 = .ok (.aload_n 0, 1) := by decide +kernel
theorem dX1_keep_9 : decode cX1_keep 9 = .ok (.aload_n 0, 1) := by decide +kernel
theorem dX1_keep_10 : decode cX1_keep 10 = .ok (.getfield 27, 3) := by decide +kernel
theorem dX1_keep_13 : decode cX1_keep 13 = .ok (.putfield 31, 3) := by decide +kernel
theorem dX1_keep_16 : decode cX1_keep 16 = .ok (.return_, 1) := by decide +kernel
theorem dX1_remember_0 : decode cX1_remember 0 = .ok (.aload_n 0, 1) := by decide +kernel
theorem dX1_remember_1 : decode cX1_remember 1 = .ok (.invokevirtual 34, 3) := by decide +kernel
theorem dX1_remember_4 : decode cX1_remember 4 = .ok (.ifCond .eq 43, 3) := by decide +kernel
theorem dX1_remember_7 : decode cX1_remember 7 = .ok (.aload_n 0, 1) := by decide +kernel
theorem dX1_remember_8 : decode cX1_remember 8 = .ok (.getfield 11, 3) := by decide +kernel
theorem dX1_remember_11 : decode cX1_remember 11 = .ok (.aload_n 0, 1) := by decide +kernel
theorem dX1_remember_12 : decode cX1_remember 12 = .ok (.getfield 31, 3) := by decide +kernel
theorem dX1_remember_15 : decode cX1_remember 15 = .ok (.iload_n 1, 1) := by decide +kernel
theorem dX1_remember_16 : decode cX1_remember 16 = .ok (.iastore, 1) := by decide +kernel
theorem dX1_remember_17 : decode cX1_remember 17 = .ok (.aload_n 0, 1) := by decide +kernel
theorem dX1_remember_18 : decode cX1_remember 18 = .ok (.getfield 15, 3) := by decide +kernel
theorem dX1_remember_21 : decode cX1_remember 21 = .ok (.aload_n 0, 1) := by decide +kernel
theorem dX1_remember_22 : decode cX1_remember 22 = .ok (.getfield 31, 3) := by decide +kernel
theorem dX1_remember_25 : decode cX1_remember 25 = .ok (.iload_n 2, 1) := by decide +kernel
theorem dX1_remember_26 : decode cX1_remember 26 = .ok (.iastore, 1) := by decide +kernel
theorem dX1_remember_27 : decode cX1_remember 27 = .ok (.aload_n 0, 1) := by decide +kernel
theorem dX1_remember_28 : decode cX1_remember 28 = .ok (.getfield 18, 3) := by decide +kernel
theorem dX1_remember_31 : decode cX1_remember 31 = .ok (.aload_n 0, 1) := by decide +kernel
theorem dX1_remember_32 : decode cX1_remember 32 = .ok (.getfield 31, 3) := by decide +kernel
theorem dX1_remember_35 : decode cX1_remember 35 = .ok (.iload_n 3, 1) := by decide +kernel
theorem dX1_remember_36 : decode cX1_remember 36 = .ok (.iastore, 1) := by decide +kernel
theorem dX1_remember_37 : decode cX1_remember 37 = .ok (.aload_n 0, 1) := by decide +kernel
theorem dX1_remember_38 : decode cX1_remember 38 = .ok (.dup, 1) := by decide +kernel
theorem dX1_remember_39 : decode cX1_remember 39 = .ok (.getfield 31, 3) := by decide +kernel
theorem dX1_remember_42 : decode cX1_remember 42 = .ok (.iconst 1, 1) := by decide +kernel
theorem dX1_remember_43 : decode cX1_remember 43 = .ok (.iadd, 1) := by decide +kernel
theorem dX1_remember_44 : decode cX1_remember 44 = .ok (.putfield 31, 3) := by decide +kernel
theorem dX1_remember_47 : decode cX1_remember 47 = .ok (.return_, 1) := by decide +kernel
theorem dX1_rememberRow_0 : decode cX1_rememberRow 0 = .ok (.aload_n 0, 1) := by decide +kernel
theorem dX1_rememberRow_1 : decode cX1_rememberRow 1 = .ok (.invokevirtual 34, 3) := by decide +kernel
theorem dX1_rememberRow_4 : decode cX1_rememberRow 4 = .ok (.ifCond .eq 35, 3) := by decide +kernel
theorem dX1_rememberRow_7 : decode cX1_rememberRow 7 = .ok (.aload_n 1, 1) := by decide +kernel
theorem dX1_rememberRow_8 : decode cX1_rememberRow 8 = .ok (.getfield 38, 3) := by decide +kernel
theorem dX1_rememberRow_11 : decode cX1_rememberRow 11 = .ok (.iconst 0, 1) := by decide +kernel
theorem dX1_rememberRow_12 : decode cX1_rememberRow 12 = .ok (.aload_n 0, 1) := by decide +kernel
theorem dX1_rememberRow_13 : decode cX1_rememberRow 13 = .ok (.getfield 24, 3) := by decide +kernel
theorem dX1_rememberRow_16 : decode cX1_rememberRow 16 = .ok (.aload_n 0, 1) := by decide +kernel
theorem dX1_rememberRow_17 : decode cX1_rememberRow 17 = .ok (.getfield 31, 3) := by decide +kernel
theorem dX1_rememberRow_20 : decode cX1_rememberRow 20 = .ok (.bipush 16, 2) := by decide +kernel
theorem dX1_rememberRow_22 : decode cX1_rememberRow 22 = .ok (.imul, 1) := by decide +kernel
theorem dX1_rememberRow_23 : decode cX1_rememberRow 23 = .ok (.bipush 16, 2) := by decide +kernel
theorem dX1_rememberRow_25 : decode cX1_rememberRow 25 = .ok (.invokestatic 43, 3) := by decide +kernel
theorem dX1_rememberRow_28 : decode cX1_rememberRow 28 = .ok (.aload_n 0, 1) := by decide +kernel
theorem dX1_rememberRow_29 : decode cX1_rememberRow 29 = .ok (.bipush 6, 2) := by decide +kernel
theorem dX1_rememberRow_31 : decode cX1_rememberRow 31 = .ok (.iconst 0, 1) := by decide +kernel
theorem dX1_rememberRow_32 : decode cX1_rememberRow 32 = .ok (.aload_n 1, 1) := by decide +kernel
theorem dX1_rememberRow_33 : decode cX1_rememberRow 33 = .ok (.getfield 49, 3) := by decide +kernel
theorem dX1_rememberRow_36 : decode cX1_rememberRow 36 = .ok (.invokevirtual 52, 3) := by decide +kernel
theorem dX1_rememberRow_39 : decode cX1_rememberRow 39 = .ok (.return_, 1) := by decide +kernel
theorem dX1_rememberSlot_0 : decode cX1_rememberSlot 0 = .ok (.aload_n 0, 1) := by decide +kernel
theorem dX1_rememberSlot_1 : decode cX1_rememberSlot 1 = .ok (.invokevirtual 34, 3) := by decide +kernel
theorem dX1_rememberSlot_4 : decode cX1_rememberSlot 4 = .ok (.ifCond .eq 31, 3) := by decide +kernel
theorem dX1_rememberSlot_7 : decode cX1_rememberSlot 7 = .ok (.aload_n 0, 1) := by decide +kernel
theorem dX1_rememberSlot_8 : decode cX1_rememberSlot 8 = .ok (.getfield 21, 3) := by decide +kernel
theorem dX1_rememberSlot_11 : decode cX1_rememberSlot 11 = .ok (.aload_n 0, 1) := by decide +kernel
theorem dX1_rememberSlot_12 : decode cX1_rememberSlot 12 = .ok (.getfield 31, 3) := by decide +kernel
theorem dX1_rememberSlot_15 : decode cX1_rememberSlot 15 = .ok (.aload_n 2, 1) := by decide +kernel
theorem dX1_rememberSlot_16 : decode cX1_rememberSlot 16 = .ok (.getfield 56, 3) := by decide +kernel
theorem dX1_rememberSlot_19 : decode cX1_rememberSlot 19 = .ok (.iload_n 1, 1) := by decide +kernel
theorem dX1_rememberSlot_20 : decode cX1_rememberSlot 20 = .ok (.iaload, 1) := by decide +kernel
theorem dX1_rememberSlot_21 : decode cX1_rememberSlot 21 = .ok (.iastore, 1) := by decide +kernel
theorem dX1_rememberSlot_22 : decode cX1_rememberSlot 22 = .ok (.aload_n 0, 1) := by decide +kernel
theorem dX1_rememberSlot_23 : decode cX1_rememberSlot 23 = .ok (.bipush 7, 2) := by decide +kernel
theorem dX1_rememberSlot_25 : decode cX1_rememberSlot 25 = .ok (.iload_n 1, 1) := by decide +kernel
theorem dX1_rememberSlot_26 : decode cX1_rememberSlot 26 = .ok (.aload_n 2, 1) := by decide +kernel
theorem dX1_rememberSlot_27 : decode cX1_rememberSlot 27 = .ok (.getfield 59, 3) := by decide +kernel
theorem dX1_rememberSlot_30 : decode cX1_rememberSlot 30 = .ok (.iload_n 1, 1) := by decide +kernel
theorem dX1_rememberSlot_31 : decode cX1_rememberSlot 31 = .ok (.iaload, 1) := by decide +kernel
theorem dX1_rememberSlot_32 : decode cX1_rememberSlot 32 = .ok (.invokevirtual 52, 3) := by decide +kernel
theorem dX1_rememberSlot_35 : decode cX1_rememberSlot 35 = .ok (.return_, 1) := by decide +kernel
theorem dX1_undoScope_0 : decode cX1_undoScope 0 = .ok (.aload_n 0, 1) := by decide +kernel
theorem dX1_undoScope_1 : decode cX1_undoScope 1 = .ok (.getfield 27, 3) := by decide +kernel
theorem dX1_undoScope_4 : decode cX1_undoScope 4 = .ok (.iconst (-1), 1) := by decide +kernel
theorem dX1_undoScope_5 : decode cX1_undoScope 5 = .ok (.if_icmp .ne 4, 3) := by decide +kernel
theorem dX1_undoScope_8 : decode cX1_undoScope 8 = .ok (.return_, 1) := by decide +kernel
theorem dX1_undoScope_9 : decode cX1_undoScope 9 = .ok (.aload_n 0, 1) := by decide +kernel
theorem dX1_undoScope_10 : decode cX1_undoScope 10 = .ok (.getfield 31, 3) := by decide +kernel
theorem dX1_undoScope_13 : decode cX1_undoScope 13 = .ok (.iconst 1, 1) := by decide +kernel
theorem dX1_undoScope_14 : decode cX1_undoScope 14 = .ok (.isub, 1) := by decide +kernel
theorem dX1_undoScope_15 : decode cX1_undoScope 15 = .ok (.istore_n 2, 1) := by decide +kernel
theorem dX1_undoScope_16 : decode cX1_undoScope 16 = .ok (.iload_n 2, 1) := by decide +kernel
theorem dX1_undoScope_17 : decode cX1_undoScope 17 = .ok (.aload_n 0, 1) := by decide +kernel
theorem dX1_undoScope_18 : decode cX1_undoScope 18 = .ok (.getfield 27, 3) := by decide +kernel
theorem dX1_undoScope_21 : decode cX1_undoScope 21 = .ok (.if_icmp .lt 15, 3) := by decide +kernel
theorem dX1_undoScope_24 : decode cX1_undoScope 24 = .ok (.aload_n 0, 1) := by decide +kernel
theorem dX1_undoScope_25 : decode cX1_undoScope 25 = .ok (.iload_n 2, 1) := by decide +kernel
theorem dX1_undoScope_26 : decode cX1_undoScope 26 = .ok (.aload_n 1, 1) := by decide +kernel
theorem dX1_undoScope_27 : decode cX1_undoScope 27 = .ok (.invokevirtual 62, 3) := by decide +kernel
theorem dX1_undoScope_30 : decode cX1_undoScope 30 = .ok (.iinc 2 (-1), 3) := by decide +kernel
theorem dX1_undoScope_33 : decode cX1_undoScope 33 = .ok (.goto (-17), 3) := by decide +kernel
theorem dX1_undoScope_36 : decode cX1_undoScope 36 = .ok (.aload_n 0, 1) := by decide +kernel
theorem dX1_undoScope_37 : decode cX1_undoScope 37 = .ok (.aload_n 0, 1) := by decide +kernel
theorem dX1_undoScope_38 : decode cX1_undoScope 38 = .ok (.getfield 27, 3) := by decide +kernel
theorem dX1_undoScope_41 : decode cX1_undoScope 41 = .ok (.putfield 31, 3) := by decide +kernel
theorem dX1_undoScope_44 : decode cX1_undoScope 44 = .ok (.return_, 1) := by decide +kernel
theorem dX1_hasRoom_0 : decode cX1_hasRoom 0 = .ok (.aload_n 0, 1) := by decide +kernel
theorem dX1_hasRoom_1 : decode cX1_hasRoom 1 = .ok (.getfield 27, 3) := by decide +kernel
theorem dX1_hasRoom_4 : decode cX1_hasRoom 4 = .ok (.iconst (-1), 1) := by decide +kernel
theorem dX1_hasRoom_5 : decode cX1_hasRoom 5 = .ok (.if_icmp .eq 16, 3) := by decide +kernel
theorem dX1_hasRoom_8 : decode cX1_hasRoom 8 = .ok (.aload_n 0, 1) := by decide +kernel
theorem dX1_hasRoom_9 : decode cX1_hasRoom 9 = .ok (.getfield 31, 3) := by decide +kernel
theorem dX1_hasRoom_12 : decode cX1_hasRoom 12 = .ok (.bipush 60, 2) := by decide +kernel
theorem dX1_hasRoom_14 : decode cX1_hasRoom 14 = .ok (.if_icmp .ge 7, 3) := by decide +kernel
theorem dX1_hasRoom_17 : decode cX1_hasRoom 17 = .ok (.iconst 1, 1) := by decide +kernel
theorem dX1_hasRoom_18 : decode cX1_hasRoom 18 = .ok (.goto 4, 3) := by decide +kernel
theorem dX1_hasRoom_21 : decode cX1_hasRoom 21 = .ok (.iconst 0, 1) := by decide +kernel
theorem dX1_hasRoom_22 : decode cX1_hasRoom 22 = .ok (.ireturn, 1) := by decide +kernel
theorem dX1_undoAt_0 : decode cX1_undoAt 0 = .ok (.aload_n 0, 1) := by decide +kernel
theorem dX1_undoAt_1 : decode cX1_undoAt 1 = .ok (.getfield 15, 3) := by decide +kernel
theorem dX1_undoAt_4 : decode cX1_undoAt 4 = .ok (.iload_n 1, 1) := by decide +kernel
theorem dX1_undoAt_5 : decode cX1_undoAt 5 = .ok (.iaload, 1) := by decide +kernel
theorem dX1_undoAt_6 : decode cX1_undoAt 6 = .ok (.istore_n 3, 1) := by decide +kernel
theorem dX1_undoAt_7 : decode cX1_undoAt 7 = .ok (.aload_n 0, 1) := by decide +kernel
theorem dX1_undoAt_8 : decode cX1_undoAt 8 = .ok (.getfield 11, 3) := by decide +kernel
theorem dX1_undoAt_11 : decode cX1_undoAt 11 = .ok (.iload_n 1, 1) := by decide +kernel
theorem dX1_undoAt_12 : decode cX1_undoAt 12 = .ok (.iaload, 1) := by decide +kernel
theorem dX1_undoAt_13 : decode cX1_undoAt 13 = .ok (.iconst 5, 1) := by decide +kernel
theorem dX1_undoAt_14 : decode cX1_undoAt 14 = .ok (.if_icmp .ne 22, 3) := by decide +kernel
theorem dX1_undoAt_17 : decode cX1_undoAt 17 = .ok (.aload_n 2, 1) := by decide +kernel
theorem dX1_undoAt_18 : decode cX1_undoAt 18 = .ok (.iload_n 3, 1) := by decide +kernel
theorem dX1_undoAt_19 : decode cX1_undoAt 19 = .ok (.invokevirtual 66, 3) := by decide +kernel
theorem dX1_undoAt_22 : decode cX1_undoAt 22 = .ok (.ifCond .ne 14, 3) := by decide +kernel
theorem dX1_undoAt_25 : decode cX1_undoAt 25 = .ok (.aload_n 0, 1) := by decide +kernel
theorem dX1_undoAt_26 : decode cX1_undoAt 26 = .ok (.dup, 1) := by decide +kernel
theorem dX1_undoAt_27 : decode cX1_undoAt 27 = .ok (.getfield 70, 3) := by decide +kernel
theorem dX1_undoAt_30 : decode cX1_undoAt 30 = .ok (.iconst 1, 1) := by decide +kernel
theorem dX1_undoAt_31 : decode cX1_undoAt 31 = .ok (.iadd, 1) := by decide +kernel
theorem dX1_undoAt_32 : decode cX1_undoAt 32 = .ok (.putfield 70, 3) := by decide +kernel
theorem dX1_undoAt_35 : decode cX1_undoAt 35 = .ok (.return_, 1) := by decide +kernel
theorem dX1_undoAt_36 : decode cX1_undoAt 36 = .ok (.aload_n 0, 1) := by decide +kernel
theorem dX1_undoAt_37 : decode cX1_undoAt 37 = .ok (.dup, 1) := by decide +kernel
theorem dX1_undoAt_38 : decode cX1_undoAt 38 = .ok (.getfield 73, 3) := by decide +kernel
theorem dX1_undoAt_41 : decode cX1_undoAt 41 = .ok (.iconst 1, 1) := by decide +kernel
theorem dX1_undoAt_42 : decode cX1_undoAt 42 = .ok (.iadd, 1) := by decide +kernel
theorem dX1_undoAt_43 : decode cX1_undoAt 43 = .ok (.putfield 73, 3) := by decide +kernel
theorem dX1_undoAt_46 : decode cX1_undoAt 46 = .ok (.aload_n 0, 1) := by decide +kernel
theorem dX1_undoAt_47 : decode cX1_undoAt 47 = .ok (.getfield 11, 3) := by decide +kernel
theorem dX1_undoAt_50 : decode cX1_undoAt 50 = .ok (.iload_n 1, 1) := by decide +kernel
theorem dX1_undoAt_51 : decode cX1_undoAt 51 = .ok (.iaload, 1) := by decide +kernel
theorem dX1_undoAt_52 : decode cX1_undoAt 52 = .ok (.tableswitch 135 1 7 #[44, 135, 135, 135, 62, 77, 108], 44) := by decide +kernel
theorem dX1_undoAt_96 : decode cX1_undoAt 96 = .ok (.aload_n 2, 1) := by decide +kernel
theorem dX1_undoAt_97 : decode cX1_undoAt 97 = .ok (.getfield 76, 3) := by decide +kernel
theorem dX1_undoAt_100 : decode cX1_undoAt 100 = .ok (.iload_n 3, 1) := by decide +kernel
theorem dX1_undoAt_101 : decode cX1_undoAt 101 = .ok (.dup2, 1) := by decide +kernel
theorem dX1_undoAt_102 : decode cX1_undoAt 102 = .ok (.iaload, 1) := by decide +kernel
theorem dX1_undoAt_103 : decode cX1_undoAt 103 = .ok (.aload_n 0, 1) := by decide +kernel
theorem dX1_undoAt_104 : decode cX1_undoAt 104 = .ok (.getfield 18, 3) := by decide +kernel
theorem dX1_undoAt_107 : decode cX1_undoAt 107 = .ok (.iload_n 1, 1) := by decide +kernel
theorem dX1_undoAt_108 : decode cX1_undoAt 108 = .ok (.iaload, 1) := by decide +kernel
theorem dX1_undoAt_109 : decode cX1_undoAt 109 = .ok (.isub, 1) := by decide +kernel
theorem dX1_undoAt_110 : decode cX1_undoAt 110 = .ok (.iastore, 1) := by decide +kernel
theorem dX1_undoAt_111 : decode cX1_undoAt 111 = .ok (.goto 88, 3) := by decide +kernel
theorem dX1_undoAt_114 : decode cX1_undoAt 114 = .ok (.aload_n 2, 1) := by decide +kernel
theorem dX1_undoAt_115 : decode cX1_undoAt 115 = .ok (.getfield 38, 3) := by decide +kernel
theorem dX1_undoAt_118 : decode cX1_undoAt 118 = .ok (.iload_n 3, 1) := by decide +kernel
theorem dX1_undoAt_119 : decode cX1_undoAt 119 = .ok (.aload_n 0, 1) := by decide +kernel
theorem dX1_undoAt_120 : decode cX1_undoAt 120 = .ok (.getfield 18, 3) := by decide +kernel
theorem dX1_undoAt_123 : decode cX1_undoAt 123 = .ok (.iload_n 1, 1) := by decide +kernel
theorem dX1_undoAt_124 : decode cX1_undoAt 124 = .ok (.iaload, 1) := by decide +kernel
theorem dX1_undoAt_125 : decode cX1_undoAt 125 = .ok (.iastore, 1) := by decide +kernel
theorem dX1_undoAt_126 : decode cX1_undoAt 126 = .ok (.goto 73, 3) := by decide +kernel
theorem dX1_undoAt_129 : decode cX1_undoAt 129 = .ok (.aload_n 0, 1) := by decide +kernel
theorem dX1_undoAt_130 : decode cX1_undoAt 130 = .ok (.getfield 24, 3) := by decide +kernel
theorem dX1_undoAt_133 : decode cX1_undoAt 133 = .ok (.iload_n 1, 1) := by decide +kernel
theorem dX1_undoAt_134 : decode cX1_undoAt 134 = .ok (.bipush 16, 2) := by decide +kernel
theorem dX1_undoAt_136 : decode cX1_undoAt 136 = .ok (.imul, 1) := by decide +kernel
theorem dX1_undoAt_137 : decode cX1_undoAt 137 = .ok (.aload_n 2, 1) := by decide +kernel
theorem dX1_undoAt_138 : decode cX1_undoAt 138 = .ok (.getfield 38, 3) := by decide +kernel
theorem dX1_undoAt_141 : decode cX1_undoAt 141 = .ok (.iconst 0, 1) := by decide +kernel
theorem dX1_undoAt_142 : decode cX1_undoAt 142 = .ok (.bipush 16, 2) := by decide +kernel
theorem dX1_undoAt_144 : decode cX1_undoAt 144 = .ok (.invokestatic 43, 3) := by decide +kernel
theorem dX1_undoAt_147 : decode cX1_undoAt 147 = .ok (.aload_n 2, 1) := by decide +kernel
theorem dX1_undoAt_148 : decode cX1_undoAt 148 = .ok (.aload_n 0, 1) := by decide +kernel
theorem dX1_undoAt_149 : decode cX1_undoAt 149 = .ok (.getfield 18, 3) := by decide +kernel
theorem dX1_undoAt_152 : decode cX1_undoAt 152 = .ok (.iload_n 1, 1) := by decide +kernel
theorem dX1_undoAt_153 : decode cX1_undoAt 153 = .ok (.iaload, 1) := by decide +kernel
theorem dX1_undoAt_154 : decode cX1_undoAt 154 = .ok (.putfield 49, 3) := by decide +kernel
theorem dX1_undoAt_157 : decode cX1_undoAt 157 = .ok (.goto 42, 3) := by decide +kernel
theorem dX1_undoAt_160 : decode cX1_undoAt 160 = .ok (.aload_n 2, 1) := by decide +kernel
theorem dX1_undoAt_161 : decode cX1_undoAt 161 = .ok (.getfield 56, 3) := by decide +kernel
theorem dX1_undoAt_164 : decode cX1_undoAt 164 = .ok (.iload_n 3, 1) := by decide +kernel
theorem dX1_undoAt_165 : decode cX1_undoAt 165 = .ok (.aload_n 0, 1) := by decide +kernel
theorem dX1_undoAt_166 : decode cX1_undoAt 166 = .ok (.getfield 21, 3) := by decide +kernel
theorem dX1_undoAt_169 : decode cX1_undoAt 169 = .ok (.iload_n 1, 1) := by decide +kernel
theorem dX1_undoAt_170 : decode cX1_undoAt 170 = .ok (.iaload, 1) := by decide +kernel
theorem dX1_undoAt_171 : decode cX1_undoAt 171 = .ok (.iastore, 1) := by decide +kernel
theorem dX1_undoAt_172 : decode cX1_undoAt 172 = .ok (.aload_n 2, 1) := by decide +kernel
theorem dX1_undoAt_173 : decode cX1_undoAt 173 = .ok (.getfield 59, 3) := by decide +kernel
theorem dX1_undoAt_176 : decode cX1_undoAt 176 = .ok (.iload_n 3, 1) := by decide +kernel
theorem dX1_undoAt_177 : decode cX1_undoAt 177 = .ok (.aload_n 0, 1) := by decide +kernel
theorem dX1_undoAt_178 : decode cX1_undoAt 178 = .ok (.getfield 18, 3) := by decide +kernel
theorem dX1_undoAt_181 : decode cX1_undoAt 181 = .ok (.iload_n 1, 1) := by decide +kernel
theorem dX1_undoAt_182 : decode cX1_undoAt 182 = .ok (.iaload, 1) := by decide +kernel
theorem dX1_undoAt_183 : decode cX1_undoAt 183 = .ok (.iastore, 1) := by decide +kernel
theorem dX1_undoAt_184 : decode cX1_undoAt 184 = .ok (.goto 15, 3) := by decide +kernel
theorem dX1_undoAt_187 : decode cX1_undoAt 187 = .ok (.aload_n 2, 1) := by decide +kernel
theorem dX1_undoAt_188 : decode cX1_undoAt 188 = .ok (.getfield 76, 3) := by decide +kernel
theorem dX1_undoAt_191 : decode cX1_undoAt 191 = .ok (.iload_n 3, 1) := by decide +kernel
theorem dX1_undoAt_192 : decode cX1_undoAt 192 = .ok (.aload_n 0, 1) := by decide +kernel
theorem dX1_undoAt_193 : decode cX1_undoAt 193 = .ok (.getfield 18, 3) := by decide +kernel
theorem dX1_undoAt_196 : decode cX1_undoAt 196 = .ok (.iload_n 1, 1) := by decide +kernel
theorem dX1_undoAt_197 : decode cX1_undoAt 197 = .ok (.iaload, 1) := by decide +kernel
theorem dX1_undoAt_198 : decode cX1_undoAt 198 = .ok (.iastore, 1) := by decide +kernel
theorem dX1_undoAt_199 : decode cX1_undoAt 199 = .ok (.return_, 1) := by decide +kernel
theorem dX2_init_0 : decode cX2_init 0 = .ok (.aload_n 0, 1) := by decide +kernel
theorem dX2_init_1 : decode cX2_init 1 = .ok (.invokespecial 3, 3) := by decide +kernel
theorem dX2_init_4 : decode cX2_init 4 = .ok (.aload_n 0, 1) := by decide +kernel
theorem dX2_init_5 : decode cX2_init 5 = .ok (.bipush 60, 2) := by decide +kernel
theorem dX2_init_7 : decode cX2_init 7 = .ok (.newarray .int, 2) := by decide +kernel
theorem dX2_init_9 : decode cX2_init 9 = .ok (.putfield 9, 3) := by decide +kernel
theorem dX2_init_12 : decode cX2_init 12 = .ok (.aload_n 0, 1) := by decide +kernel
theorem dX2_init_13 : decode cX2_init 13 = .ok (.bipush 60, 2) := by decide +kernel
theorem dX2_init_15 : decode cX2_init 15 = .ok (.newarray .int, 2) := by decide +kernel
theorem dX2_init_17 : decode cX2_init 17 = .ok (.putfield 15, 3) := by decide +kernel
theorem dX2_init_20 : decode cX2_init 20 = .ok (.aload_n 0, 1) := by decide +kernel
theorem dX2_init_21 : decode cX2_init 21 = .ok (.bipush 60, 2) := by decide +kernel
theorem dX2_init_23 : decode cX2_init 23 = .ok (.newarray .int, 2) := by decide +kernel
theorem dX2_init_25 : decode cX2_init 25 = .ok (.putfield 18, 3) := by decide +kernel
theorem dX2_init_28 : decode cX2_init 28 = .ok (.aload_n 0, 1) := by decide +kernel
theorem dX2_init_29 : decode cX2_init 29 = .ok (.bipush 60, 2) := by decide +kernel
theorem dX2_init_31 : decode cX2_init 31 = .ok (.newarray .int, 2) := by decide +kernel
theorem dX2_init_33 : decode cX2_init 33 = .ok (.putfield 21, 3) := by decide +kernel
theorem dX2_init_36 : decode cX2_init 36 = .ok (.aload_n 0, 1) := by decide +kernel
theorem dX2_init_37 : decode cX2_init 37 = .ok (.bipush 60, 2) := by decide +kernel
theorem dX2_init_39 : decode cX2_init 39 = .ok (.newarray .int, 2) := by decide +kernel
theorem dX2_init_41 : decode cX2_init 41 = .ok (.putfield 24, 3) := by decide +kernel
theorem dX2_init_44 : decode cX2_init 44 = .ok (.aload_n 0, 1) := by decide +kernel
theorem dX2_init_45 : decode cX2_init 45 = .ok (.bipush 10, 2) := by decide +kernel
theorem dX2_init_47 : decode cX2_init 47 = .ok (.newarray .int, 2) := by decide +kernel
theorem dX2_init_49 : decode cX2_init 49 = .ok (.putfield 27, 3) := by decide +kernel
theorem dX2_init_52 : decode cX2_init 52 = .ok (.aload_n 0, 1) := by decide +kernel
theorem dX2_init_53 : decode cX2_init 53 = .ok (.bipush 10, 2) := by decide +kernel
theorem dX2_init_55 : decode cX2_init 55 = .ok (.newarray .int, 2) := by decide +kernel
theorem dX2_init_57 : decode cX2_init 57 = .ok (.putfield 30, 3) := by decide +kernel
theorem dX2_init_60 : decode cX2_init 60 = .ok (.return_, 1) := by decide +kernel
theorem dX2_isWhole_0 : decode cX2_isWhole 0 = .ok (.aload_n 0, 1) := by decide +kernel
theorem dX2_isWhole_1 : decode cX2_isWhole 1 = .ok (.getfield 33, 3) := by decide +kernel
theorem dX2_isWhole_4 : decode cX2_isWhole 4 = .ok (.ifCond .ne 7, 3) := by decide +kernel
theorem dX2_isWhole_7 : decode cX2_isWhole 7 = .ok (.iconst 1, 1) := by decide +kernel
theorem dX2_isWhole_8 : decode cX2_isWhole 8 = .ok (.goto 4, 3) := by decide +kernel
theorem dX2_isWhole_11 : decode cX2_isWhole 11 = .ok (.iconst 0, 1) := by decide +kernel
theorem dX2_isWhole_12 : decode cX2_isWhole 12 = .ok (.ireturn, 1) := by decide +kernel
theorem dX2_empty_0 : decode cX2_empty 0 = .ok (.aload_n 0, 1) := by decide +kernel
theorem dX2_empty_1 : decode cX2_empty 1 = .ok (.iconst 0, 1) := by decide +kernel
theorem dX2_empty_2 : decode cX2_empty 2 = .ok (.putfield 33, 3) := by decide +kernel
theorem dX2_empty_5 : decode cX2_empty 5 = .ok (.aload_n 0, 1) := by decide +kernel
theorem dX2_empty_6 : decode cX2_empty 6 = .ok (.iconst 0, 1) := by decide +kernel
theorem dX2_empty_7 : decode cX2_empty 7 = .ok (.putfield 37, 3) := by decide +kernel
theorem dX2_empty_10 : decode cX2_empty 10 = .ok (.return_, 1) := by decide +kernel
theorem dX2_canTake_0 : decode cX2_canTake 0 = .ok (.aload_n 0, 1) := by decide +kernel
theorem dX2_canTake_1 : decode cX2_canTake 1 = .ok (.getfield 37, 3) := by decide +kernel
theorem dX2_canTake_4 : decode cX2_canTake 4 = .ok (.bipush 60, 2) := by decide +kernel
theorem dX2_canTake_6 : decode cX2_canTake 6 = .ok (.if_icmp .lt 5, 3) := by decide +kernel
theorem dX2_canTake_9 : decode cX2_canTake 9 = .ok (.iconst 0, 1) := by decide +kernel
theorem dX2_canTake_10 : decode cX2_canTake 10 = .ok (.ireturn, 1) := by decide +kernel
theorem dX2_canTake_11 : decode cX2_canTake 11 = .ok (.iload_n 1, 1) := by decide +kernel
theorem dX2_canTake_12 : decode cX2_canTake 12 = .ok (.tableswitch 164 10 22 #[68, 83, 98, 68, 68, 68, 137, 150, 150, 164, 164, 68, 122], 68) := by decide +kernel
theorem dX2_canTake_80 : decode cX2_canTake 80 = .ok (.aload_n 0, 1) := by decide +kernel
theorem dX2_canTake_81 : decode cX2_canTake 81 = .ok (.getfield 33, 3) := by decide +kernel
theorem dX2_canTake_84 : decode cX2_canTake 84 = .ok (.bipush 10, 2) := by decide +kernel
theorem dX2_canTake_86 : decode cX2_canTake 86 = .ok (.if_icmp .ge 7, 3) := by decide +kernel
theorem dX2_canTake_89 : decode cX2_canTake 89 = .ok (.iconst 1, 1) := by decide +kernel
theorem dX2_canTake_90 : decode cX2_canTake 90 = .ok (.goto 4, 3) := by decide +kernel
theorem dX2_canTake_93 : decode cX2_canTake 93 = .ok (.iconst 0, 1) := by decide +kernel
theorem dX2_canTake_94 : decode cX2_canTake 94 = .ok (.ireturn, 1) := by decide +kernel
theorem dX2_canTake_95 : decode cX2_canTake 95 = .ok (.aload_n 0, 1) := by decide +kernel
theorem dX2_canTake_96 : decode cX2_canTake 96 = .ok (.invokevirtual 40, 3) := by decide +kernel
theorem dX2_canTake_99 : decode cX2_canTake 99 = .ok (.bipush 10, 2) := by decide +kernel
theorem dX2_canTake_101 : decode cX2_canTake 101 = .ok (.if_icmp .ne 7, 3) := by decide +kernel
theorem dX2_canTake_104 : decode cX2_canTake 104 = .ok (.iconst 1, 1) := by decide +kernel
theorem dX2_canTake_105 : decode cX2_canTake 105 = .ok (.goto 4, 3) := by decide +kernel
theorem dX2_canTake_108 : decode cX2_canTake 108 = .ok (.iconst 0, 1) := by decide +kernel
theorem dX2_canTake_109 : decode cX2_canTake 109 = .ok (.ireturn, 1) := by decide +kernel
theorem dX2_canTake_110 : decode cX2_canTake 110 = .ok (.aload_n 0, 1) := by decide +kernel
theorem dX2_canTake_111 : decode cX2_canTake 111 = .ok (.invokevirtual 40, 3) := by decide +kernel
theorem dX2_canTake_114 : decode cX2_canTake 114 = .ok (.bipush 10, 2) := by decide +kernel
theorem dX2_canTake_116 : decode cX2_canTake 116 = .ok (.if_icmp .eq 12, 3) := by decide +kernel
theorem dX2_canTake_119 : decode cX2_canTake 119 = .ok (.aload_n 0, 1) := by decide +kernel
theorem dX2_canTake_120 : decode cX2_canTake 120 = .ok (.invokevirtual 40, 3) := by decide +kernel
theorem dX2_canTake_123 : decode cX2_canTake 123 = .ok (.bipush 11, 2) := by decide +kernel
theorem dX2_canTake_125 : decode cX2_canTake 125 = .ok (.if_icmp .ne 7, 3) := by decide +kernel
theorem dX2_canTake_128 : decode cX2_canTake 128 = .ok (.iconst 1, 1) := by decide +kernel
theorem dX2_canTake_129 : decode cX2_canTake 129 = .ok (.goto 4, 3) := by decide +kernel
theorem dX2_canTake_132 : decode cX2_canTake 132 = .ok (.iconst 0, 1) := by decide +kernel
theorem dX2_canTake_133 : decode cX2_canTake 133 = .ok (.ireturn, 1) := by decide +kernel
theorem dX2_canTake_134 : decode cX2_canTake 134 = .ok (.aload_n 0, 1) := by decide +kernel
theorem dX2_canTake_135 : decode cX2_canTake 135 = .ok (.invokevirtual 40, 3) := by decide +kernel
theorem dX2_canTake_138 : decode cX2_canTake 138 = .ok (.bipush 21, 2) := by decide +kernel
theorem dX2_canTake_140 : decode cX2_canTake 140 = .ok (.if_icmp .ne 7, 3) := by decide +kernel
theorem dX2_canTake_143 : decode cX2_canTake 143 = .ok (.iconst 1, 1) := by decide +kernel
theorem dX2_canTake_144 : decode cX2_canTake 144 = .ok (.goto 4, 3) := by decide +kernel
theorem dX2_canTake_147 : decode cX2_canTake 147 = .ok (.iconst 0, 1) := by decide +kernel
theorem dX2_canTake_148 : decode cX2_canTake 148 = .ok (.ireturn, 1) := by decide +kernel
theorem dX2_canTake_149 : decode cX2_canTake 149 = .ok (.aload_n 0, 1) := by decide +kernel
theorem dX2_canTake_150 : decode cX2_canTake 150 = .ok (.getfield 33, 3) := by decide +kernel
theorem dX2_canTake_153 : decode cX2_canTake 153 = .ok (.ifCond .le 7, 3) := by decide +kernel
theorem dX2_canTake_156 : decode cX2_canTake 156 = .ok (.iconst 1, 1) := by decide +kernel
theorem dX2_canTake_157 : decode cX2_canTake 157 = .ok (.goto 4, 3) := by decide +kernel
theorem dX2_canTake_160 : decode cX2_canTake 160 = .ok (.iconst 0, 1) := by decide +kernel
theorem dX2_canTake_161 : decode cX2_canTake 161 = .ok (.ireturn, 1) := by decide +kernel
theorem dX2_canTake_162 : decode cX2_canTake 162 = .ok (.aload_n 0, 1) := by decide +kernel
theorem dX2_canTake_163 : decode cX2_canTake 163 = .ok (.invokevirtual 44, 3) := by decide +kernel
theorem dX2_canTake_166 : decode cX2_canTake 166 = .ok (.iload_n 2, 1) := by decide +kernel
theorem dX2_canTake_167 : decode cX2_canTake 167 = .ok (.if_icmp .le 7, 3) := by decide +kernel
theorem dX2_canTake_170 : decode cX2_canTake 170 = .ok (.iconst 1, 1) := by decide +kernel
theorem dX2_canTake_171 : decode cX2_canTake 171 = .ok (.goto 4, 3) := by decide +kernel
theorem dX2_canTake_174 : decode cX2_canTake 174 = .ok (.iconst 0, 1) := by decide +kernel
theorem dX2_canTake_175 : decode cX2_canTake 175 = .ok (.ireturn, 1) := by decide +kernel
theorem dX2_canTake_176 : decode cX2_canTake 176 = .ok (.iconst 1, 1) := by decide +kernel
theorem dX2_canTake_177 : decode cX2_canTake 177 = .ok (.ireturn, 1) := by decide +kernel
theorem dX2_append_0 : decode cX2_append 0 = .ok (.aload_n 0, 1) := by decide +kernel
theorem dX2_append_1 : decode cX2_append 1 = .ok (.getfield 37, 3) := by decide +kernel
theorem dX2_append_4 : decode cX2_append 4 = .ok (.istore 4, 2) := by decide +kernel
theorem dX2_append_6 : decode cX2_append 6 = .ok (.aload_n 0, 1) := by decide +kernel
theorem dX2_append_7 : decode cX2_append 7 = .ok (.getfield 9, 3) := by decide +kernel
theorem dX2_append_10 : decode cX2_append 10 = .ok (.iload 4, 2) := by decide +kernel
theorem dX2_append_12 : decode cX2_append 12 = .ok (.iload_n 1, 1) := by decide +kernel
theorem dX2_append_13 : decode cX2_append 13 = .ok (.iastore, 1) := by decide +kernel
theorem dX2_append_14 : decode cX2_append 14 = .ok (.aload_n 0, 1) := by decide +kernel
theorem dX2_append_15 : decode cX2_append 15 = .ok (.getfield 15, 3) := by decide +kernel
theorem dX2_append_18 : decode cX2_append 18 = .ok (.iload 4, 2) := by decide +kernel
theorem dX2_append_20 : decode cX2_append 20 = .ok (.iload_n 2, 1) := by decide +kernel
theorem dX2_append_21 : decode cX2_append 21 = .ok (.iastore, 1) := by decide +kernel
theorem dX2_append_22 : decode cX2_append 22 = .ok (.aload_n 0, 1) := by decide +kernel
theorem dX2_append_23 : decode cX2_append 23 = .ok (.getfield 18, 3) := by decide +kernel
theorem dX2_append_26 : decode cX2_append 26 = .ok (.iload 4, 2) := by decide +kernel
theorem dX2_append_28 : decode cX2_append 28 = .ok (.iload_n 3, 1) := by decide +kernel
theorem dX2_append_29 : decode cX2_append 29 = .ok (.iastore, 1) := by decide +kernel
theorem dX2_append_30 : decode cX2_append 30 = .ok (.aload_n 0, 1) := by decide +kernel
theorem dX2_append_31 : decode cX2_append 31 = .ok (.getfield 21, 3) := by decide +kernel
theorem dX2_append_34 : decode cX2_append 34 = .ok (.iload 4, 2) := by decide +kernel
theorem dX2_append_36 : decode cX2_append 36 = .ok (.iload 4, 2) := by decide +kernel
theorem dX2_append_38 : decode cX2_append 38 = .ok (.iastore, 1) := by decide +kernel
theorem dX2_append_39 : decode cX2_append 39 = .ok (.aload_n 0, 1) := by decide +kernel
theorem dX2_append_40 : decode cX2_append 40 = .ok (.getfield 24, 3) := by decide +kernel
theorem dX2_append_43 : decode cX2_append 43 = .ok (.iload 4, 2) := by decide +kernel
theorem dX2_append_45 : decode cX2_append 45 = .ok (.iload 4, 2) := by decide +kernel
theorem dX2_append_47 : decode cX2_append 47 = .ok (.iastore, 1) := by decide +kernel
theorem dX2_append_48 : decode cX2_append 48 = .ok (.aload_n 0, 1) := by decide +kernel
theorem dX2_append_49 : decode cX2_append 49 = .ok (.dup, 1) := by decide +kernel
theorem dX2_append_50 : decode cX2_append 50 = .ok (.getfield 37, 3) := by decide +kernel
theorem dX2_append_53 : decode cX2_append 53 = .ok (.iconst 1, 1) := by decide +kernel
theorem dX2_append_54 : decode cX2_append 54 = .ok (.iadd, 1) := by decide +kernel
theorem dX2_append_55 : decode cX2_append 55 = .ok (.putfield 37, 3) := by decide +kernel
theorem dX2_append_58 : decode cX2_append 58 = .ok (.iload_n 1, 1) := by decide +kernel
theorem dX2_append_59 : decode cX2_append 59 = .ok (.tableswitch 92 10 22 #[65, 74, 74, 65, 65, 65, 83, 92, 92, 92, 92, 65, 74], 65) := by decide +kernel
theorem dX2_append_124 : decode cX2_append 124 = .ok (.aload_n 0, 1) := by decide +kernel
theorem dX2_append_125 : decode cX2_append 125 = .ok (.iload 4, 2) := by decide +kernel
theorem dX2_append_127 : decode cX2_append 127 = .ok (.invokevirtual 47, 3) := by decide +kernel
theorem dX2_append_130 : decode cX2_append 130 = .ok (.goto 21, 3) := by decide +kernel
theorem dX2_append_133 : decode cX2_append 133 = .ok (.aload_n 0, 1) := by decide +kernel
theorem dX2_append_134 : decode cX2_append 134 = .ok (.iload 4, 2) := by decide +kernel
theorem dX2_append_136 : decode cX2_append 136 = .ok (.invokevirtual 51, 3) := by decide +kernel
theorem dX2_append_139 : decode cX2_append 139 = .ok (.goto 12, 3) := by decide +kernel
theorem dX2_append_142 : decode cX2_append 142 = .ok (.aload_n 0, 1) := by decide +kernel
theorem dX2_append_143 : decode cX2_append 143 = .ok (.iload 4, 2) := by decide +kernel
theorem dX2_append_145 : decode cX2_append 145 = .ok (.invokevirtual 54, 3) := by decide +kernel
theorem dX2_append_148 : decode cX2_append 148 = .ok (.goto 3, 3) := by decide +kernel
theorem dX2_append_151 : decode cX2_append 151 = .ok (.return_, 1) := by decide +kernel
theorem dX2_latestPart_0 : decode cX2_latestPart 0 = .ok (.aload_n 0, 1) := by decide +kernel
theorem dX2_latestPart_1 : decode cX2_latestPart 1 = .ok (.getfield 33, 3) := by decide +kernel
theorem dX2_latestPart_4 : decode cX2_latestPart 4 = .ok (.ifCond .le 22, 3) := by decide +kernel
theorem dX2_latestPart_7 : decode cX2_latestPart 7 = .ok (.aload_n 0, 1) := by decide +kernel
theorem dX2_latestPart_8 : decode cX2_latestPart 8 = .ok (.getfield 9, 3) := by decide +kernel
theorem dX2_latestPart_11 : decode cX2_latestPart 11 = .ok (.aload_n 0, 1) := by decide +kernel
theorem dX2_latestPart_12 : decode cX2_latestPart 12 = .ok (.getfield 30, 3) := by decide +kernel
theorem dX2_latestPart_15 : decode cX2_latestPart 15 = .ok (.aload_n 0, 1) := by decide +kernel
theorem dX2_latestPart_16 : decode cX2_latestPart 16 = .ok (.getfield 33, 3) := by decide +kernel
theorem dX2_latestPart_19 : decode cX2_latestPart 19 = .ok (.iconst 1, 1) := by decide +kernel
theorem dX2_latestPart_20 : decode cX2_latestPart 20 = .ok (.isub, 1) := by decide +kernel
theorem dX2_latestPart_21 : decode cX2_latestPart 21 = .ok (.iaload, 1) := by decide +kernel
theorem dX2_latestPart_22 : decode cX2_latestPart 22 = .ok (.iaload, 1) := by decide +kernel
theorem dX2_latestPart_23 : decode cX2_latestPart 23 = .ok (.goto 4, 3) := by decide +kernel
theorem dX2_latestPart_26 : decode cX2_latestPart 26 = .ok (.iconst (-1), 1) := by decide +kernel
theorem dX2_latestPart_27 : decode cX2_latestPart 27 = .ok (.ireturn, 1) := by decide +kernel
theorem dX2_openLoops_0 : decode cX2_openLoops 0 = .ok (.iconst 0, 1) := by decide +kernel
theorem dX2_openLoops_1 : decode cX2_openLoops 1 = .ok (.istore_n 1, 1) := by decide +kernel
theorem dX2_openLoops_2 : decode cX2_openLoops 2 = .ok (.iconst 0, 1) := by decide +kernel
theorem dX2_openLoops_3 : decode cX2_openLoops 3 = .ok (.istore_n 2, 1) := by decide +kernel
theorem dX2_openLoops_4 : decode cX2_openLoops 4 = .ok (.iload_n 2, 1) := by decide +kernel
theorem dX2_openLoops_5 : decode cX2_openLoops 5 = .ok (.aload_n 0, 1) := by decide +kernel
theorem dX2_openLoops_6 : decode cX2_openLoops 6 = .ok (.getfield 33, 3) := by decide +kernel
theorem dX2_openLoops_9 : decode cX2_openLoops 9 = .ok (.if_icmp .ge 28, 3) := by decide +kernel
theorem dX2_openLoops_12 : decode cX2_openLoops 12 = .ok (.aload_n 0, 1) := by decide +kernel
theorem dX2_openLoops_13 : decode cX2_openLoops 13 = .ok (.getfield 9, 3) := by decide +kernel
theorem dX2_openLoops_16 : decode cX2_openLoops 16 = .ok (.aload_n 0, 1) := by decide +kernel
theorem dX2_openLoops_17 : decode cX2_openLoops 17 = .ok (.getfield 27, 3) := by decide +kernel
theorem dX2_openLoops_20 : decode cX2_openLoops 20 = .ok (.iload_n 2, 1) := by decide +kernel
theorem dX2_openLoops_21 : decode cX2_openLoops 21 = .ok (.iaload, 1) := by decide +kernel
theorem dX2_openLoops_22 : decode cX2_openLoops 22 = .ok (.iaload, 1) := by decide +kernel
theorem dX2_openLoops_23 : decode cX2_openLoops 23 = .ok (.bipush 13, 2) := by decide +kernel
theorem dX2_openLoops_25 : decode cX2_openLoops 25 = .ok (.if_icmp .ne 6, 3) := by decide +kernel
theorem dX2_openLoops_28 : decode cX2_openLoops 28 = .ok (.iinc 1 1, 3) := by decide +kernel
theorem dX2_openLoops_31 : decode cX2_openLoops 31 = .ok (.iinc 2 1, 3) := by decide +kernel
theorem dX2_openLoops_34 : decode cX2_openLoops 34 = .ok (.goto (-30), 3) := by decide +kernel
theorem dX2_openLoops_37 : decode cX2_openLoops 37 = .ok (.iload_n 1, 1) := by decide +kernel
theorem dX2_openLoops_38 : decode cX2_openLoops 38 = .ok (.ireturn, 1) := by decide +kernel
theorem dX2_openAt_0 : decode cX2_openAt 0 = .ok (.aload_n 0, 1) := by decide +kernel
theorem dX2_openAt_1 : decode cX2_openAt 1 = .ok (.getfield 33, 3) := by decide +kernel
theorem dX2_openAt_4 : decode cX2_openAt 4 = .ok (.bipush 10, 2) := by decide +kernel
theorem dX2_openAt_6 : decode cX2_openAt 6 = .ok (.if_icmp .ge 33, 3) := by decide +kernel
theorem dX2_openAt_9 : decode cX2_openAt 9 = .ok (.aload_n 0, 1) := by decide +kernel
theorem dX2_openAt_10 : decode cX2_openAt 10 = .ok (.getfield 27, 3) := by decide +kernel
theorem dX2_openAt_13 : decode cX2_openAt 13 = .ok (.aload_n 0, 1) := by decide +kernel
theorem dX2_openAt_14 : decode cX2_openAt 14 = .ok (.getfield 33, 3) := by decide +kernel
theorem dX2_openAt_17 : decode cX2_openAt 17 = .ok (.iload_n 1, 1) := by decide +kernel
theorem dX2_openAt_18 : decode cX2_openAt 18 = .ok (.iastore, 1) := by decide +kernel
theorem dX2_openAt_19 : decode cX2_openAt 19 = .ok (.aload_n 0, 1) := by decide +kernel
theorem dX2_openAt_20 : decode cX2_openAt 20 = .ok (.getfield 30, 3) := by decide +kernel
theorem dX2_openAt_23 : decode cX2_openAt 23 = .ok (.aload_n 0, 1) := by decide +kernel
theorem dX2_openAt_24 : decode cX2_openAt 24 = .ok (.getfield 33, 3) := by decide +kernel
theorem dX2_openAt_27 : decode cX2_openAt 27 = .ok (.iload_n 1, 1) := by decide +kernel
theorem dX2_openAt_28 : decode cX2_openAt 28 = .ok (.iastore, 1) := by decide +kernel
theorem dX2_openAt_29 : decode cX2_openAt 29 = .ok (.aload_n 0, 1) := by decide +kernel
theorem dX2_openAt_30 : decode cX2_openAt 30 = .ok (.dup, 1) := by decide +kernel
theorem dX2_openAt_31 : decode cX2_openAt 31 = .ok (.getfield 33, 3) := by decide +kernel
theorem dX2_openAt_34 : decode cX2_openAt 34 = .ok (.iconst 1, 1) := by decide +kernel
theorem dX2_openAt_35 : decode cX2_openAt 35 = .ok (.iadd, 1) := by decide +kernel
theorem dX2_openAt_36 : decode cX2_openAt 36 = .ok (.putfield 33, 3) := by decide +kernel
theorem dX2_openAt_39 : decode cX2_openAt 39 = .ok (.return_, 1) := by decide +kernel
theorem dX2_beginPartAt_0 : decode cX2_beginPartAt 0 = .ok (.aload_n 0, 1) := by decide +kernel
theorem dX2_beginPartAt_1 : decode cX2_beginPartAt 1 = .ok (.getfield 33, 3) := by decide +kernel
theorem dX2_beginPartAt_4 : decode cX2_beginPartAt 4 = .ok (.ifCond .le 32, 3) := by decide +kernel
theorem dX2_beginPartAt_7 : decode cX2_beginPartAt 7 = .ok (.aload_n 0, 1) := by decide +kernel
theorem dX2_beginPartAt_8 : decode cX2_beginPartAt 8 = .ok (.getfield 21, 3) := by decide +kernel
theorem dX2_beginPartAt_11 : decode cX2_beginPartAt 11 = .ok (.aload_n 0, 1) := by decide +kernel
theorem dX2_beginPartAt_12 : decode cX2_beginPartAt 12 = .ok (.getfield 30, 3) := by decide +kernel
theorem dX2_beginPartAt_15 : decode cX2_beginPartAt 15 = .ok (.aload_n 0, 1) := by decide +kernel
theorem dX2_beginPartAt_16 : decode cX2_beginPartAt 16 = .ok (.getfield 33, 3) := by decide +kernel
theorem dX2_beginPartAt_19 : decode cX2_beginPartAt 19 = .ok (.iconst 1, 1) := by decide +kernel
theorem dX2_beginPartAt_20 : decode cX2_beginPartAt 20 = .ok (.isub, 1) := by decide +kernel
theorem dX2_beginPartAt_21 : decode cX2_beginPartAt 21 = .ok (.iaload, 1) := by decide +kernel
theorem dX2_beginPartAt_22 : decode cX2_beginPartAt 22 = .ok (.iload_n 1, 1) := by decide +kernel
theorem dX2_beginPartAt_23 : decode cX2_beginPartAt 23 = .ok (.iastore, 1) := by decide +kernel
theorem dX2_beginPartAt_24 : decode cX2_beginPartAt 24 = .ok (.aload_n 0, 1) := by decide +kernel
theorem dX2_beginPartAt_25 : decode cX2_beginPartAt 25 = .ok (.getfield 30, 3) := by decide +kernel
theorem dX2_beginPartAt_28 : decode cX2_beginPartAt 28 = .ok (.aload_n 0, 1) := by decide +kernel
theorem dX2_beginPartAt_29 : decode cX2_beginPartAt 29 = .ok (.getfield 33, 3) := by decide +kernel
theorem dX2_beginPartAt_32 : decode cX2_beginPartAt 32 = .ok (.iconst 1, 1) := by decide +kernel
theorem dX2_beginPartAt_33 : decode cX2_beginPartAt 33 = .ok (.isub, 1) := by decide +kernel
theorem dX2_beginPartAt_34 : decode cX2_beginPartAt 34 = .ok (.iload_n 1, 1) := by decide +kernel
theorem dX2_beginPartAt_35 : decode cX2_beginPartAt 35 = .ok (.iastore, 1) := by decide +kernel
theorem dX2_beginPartAt_36 : decode cX2_beginPartAt 36 = .ok (.return_, 1) := by decide +kernel
theorem dX2_closeAt_0 : decode cX2_closeAt 0 = .ok (.aload_n 0, 1) := by decide +kernel
theorem dX2_closeAt_1 : decode cX2_closeAt 1 = .ok (.getfield 33, 3) := by decide +kernel
theorem dX2_closeAt_4 : decode cX2_closeAt 4 = .ok (.ifCond .le 43, 3) := by decide +kernel
theorem dX2_closeAt_7 : decode cX2_closeAt 7 = .ok (.aload_n 0, 1) := by decide +kernel
theorem dX2_closeAt_8 : decode cX2_closeAt 8 = .ok (.dup, 1) := by decide +kernel
theorem dX2_closeAt_9 : decode cX2_closeAt 9 = .ok (.getfield 33, 3) := by decide +kernel
theorem dX2_closeAt_12 : decode cX2_closeAt 12 = .ok (.iconst 1, 1) := by decide +kernel
theorem dX2_closeAt_13 : decode cX2_closeAt 13 = .ok (.isub, 1) := by decide +kernel
theorem dX2_closeAt_14 : decode cX2_closeAt 14 = .ok (.putfield 33, 3) := by decide +kernel
theorem dX2_closeAt_17 : decode cX2_closeAt 17 = .ok (.aload_n 0, 1) := by decide +kernel
theorem dX2_closeAt_18 : decode cX2_closeAt 18 = .ok (.getfield 21, 3) := by decide +kernel
theorem dX2_closeAt_21 : decode cX2_closeAt 21 = .ok (.aload_n 0, 1) := by decide +kernel
theorem dX2_closeAt_22 : decode cX2_closeAt 22 = .ok (.getfield 30, 3) := by decide +kernel
theorem dX2_closeAt_25 : decode cX2_closeAt 25 = .ok (.aload_n 0, 1) := by decide +kernel
theorem dX2_closeAt_26 : decode cX2_closeAt 26 = .ok (.getfield 33, 3) := by decide +kernel
theorem dX2_closeAt_29 : decode cX2_closeAt 29 = .ok (.iaload, 1) := by decide +kernel
theorem dX2_closeAt_30 : decode cX2_closeAt 30 = .ok (.iload_n 1, 1) := by decide +kernel
theorem dX2_closeAt_31 : decode cX2_closeAt 31 = .ok (.iastore, 1) := by decide +kernel
theorem dX2_closeAt_32 : decode cX2_closeAt 32 = .ok (.aload_n 0, 1) := by decide +kernel
theorem dX2_closeAt_33 : decode cX2_closeAt 33 = .ok (.getfield 24, 3) := by decide +kernel
theorem dX2_closeAt_36 : decode cX2_closeAt 36 = .ok (.aload_n 0, 1) := by decide +kernel
theorem dX2_closeAt_37 : decode cX2_closeAt 37 = .ok (.getfield 27, 3) := by decide +kernel
theorem dX2_closeAt_40 : decode cX2_closeAt 40 = .ok (.aload_n 0, 1) := by decide +kernel
theorem dX2_closeAt_41 : decode cX2_closeAt 41 = .ok (.getfield 33, 3) := by decide +kernel
theorem dX2_closeAt_44 : decode cX2_closeAt 44 = .ok (.iaload, 1) := by decide +kernel
theorem dX2_closeAt_45 : decode cX2_closeAt 45 = .ok (.iload_n 1, 1) := by decide +kernel
theorem dX2_closeAt_46 : decode cX2_closeAt 46 = .ok (.iastore, 1) := by decide +kernel
theorem dX2_closeAt_47 : decode cX2_closeAt 47 = .ok (.return_, 1) := by decide +kernel
theorem dX3_init_0 : decode cX3_init 0 = .ok (.aload_n 0, 1) := by decide +kernel
theorem dX3_init_1 : decode cX3_init 1 = .ok (.invokespecial 1, 3) := by decide +kernel
theorem dX3_init_4 : decode cX3_init 4 = .ok (.aload_n 0, 1) := by decide +kernel
theorem dX3_init_5 : decode cX3_init 5 = .ok (.bipush 8, 2) := by decide +kernel
theorem dX3_init_7 : decode cX3_init 7 = .ok (.anewarray 9, 3) := by decide +kernel
theorem dX3_init_10 : decode cX3_init 10 = .ok (.putfield 11, 3) := by decide +kernel
theorem dX3_init_13 : decode cX3_init 13 = .ok (.iconst 0, 1) := by decide +kernel
theorem dX3_init_14 : decode cX3_init 14 = .ok (.istore_n 1, 1) := by decide +kernel
theorem dX3_init_15 : decode cX3_init 15 = .ok (.iload_n 1, 1) := by decide +kernel
theorem dX3_init_16 : decode cX3_init 16 = .ok (.bipush 8, 2) := by decide +kernel
theorem dX3_init_18 : decode cX3_init 18 = .ok (.if_icmp .ge 22, 3) := by decide +kernel
theorem dX3_init_21 : decode cX3_init 21 = .ok (.aload_n 0, 1) := by decide +kernel
theorem dX3_init_22 : decode cX3_init 22 = .ok (.getfield 11, 3) := by decide +kernel
theorem dX3_init_25 : decode cX3_init 25 = .ok (.iload_n 1, 1) := by decide +kernel
theorem dX3_init_26 : decode cX3_init 26 = .ok (.new 9, 3) := by decide +kernel
theorem dX3_init_29 : decode cX3_init 29 = .ok (.dup, 1) := by decide +kernel
theorem dX3_init_30 : decode cX3_init 30 = .ok (.invokespecial 15, 3) := by decide +kernel
theorem dX3_init_33 : decode cX3_init 33 = .ok (.aastore, 1) := by decide +kernel
theorem dX3_init_34 : decode cX3_init 34 = .ok (.iinc 1 1, 3) := by decide +kernel
theorem dX3_init_37 : decode cX3_init 37 = .ok (.goto (-22), 3) := by decide +kernel
theorem dX3_init_40 : decode cX3_init 40 = .ok (.aload_n 0, 1) := by decide +kernel
theorem dX3_init_41 : decode cX3_init 41 = .ok (.new 16, 3) := by decide +kernel
theorem dX3_init_44 : decode cX3_init 44 = .ok (.dup, 1) := by decide +kernel
theorem dX3_init_45 : decode cX3_init 45 = .ok (.invokespecial 18, 3) := by decide +kernel
theorem dX3_init_48 : decode cX3_init 48 = .ok (.putfield 19, 3) := by decide +kernel
theorem dX3_init_51 : decode cX3_init 51 = .ok (.aload_n 0, 1) := by decide +kernel
theorem dX3_init_52 : decode cX3_init 52 = .ok (.new 23, 3) := by decide +kernel
theorem dX3_init_55 : decode cX3_init 55 = .ok (.dup, 1) := by decide +kernel
theorem dX3_init_56 : decode cX3_init 56 = .ok (.invokespecial 25, 3) := by decide +kernel
theorem dX3_init_59 : decode cX3_init 59 = .ok (.putfield 26, 3) := by decide +kernel
theorem dX3_init_62 : decode cX3_init 62 = .ok (.return_, 1) := by decide +kernel
theorem dX3_node_0 : decode cX3_node 0 = .ok (.iload_n 1, 1) := by decide +kernel
theorem dX3_node_1 : decode cX3_node 1 = .ok (.bipush 8, 2) := by decide +kernel
theorem dX3_node_3 : decode cX3_node 3 = .ok (.invokestatic 30, 3) := by decide +kernel
theorem dX3_node_6 : decode cX3_node 6 = .ok (.iload_n 2, 1) := by decide +kernel
theorem dX3_node_7 : decode cX3_node 7 = .ok (.bipush 24, 2) := by decide +kernel
theorem dX3_node_9 : decode cX3_node 9 = .ok (.invokestatic 30, 3) := by decide +kernel
theorem dX3_node_12 : decode cX3_node 12 = .ok (.iload_n 3, 1) := by decide +kernel
theorem dX3_node_13 : decode cX3_node 13 = .ok (.getstatic 34, 3) := by decide +kernel
theorem dX3_node_16 : decode cX3_node 16 = .ok (.iload_n 2, 1) := by decide +kernel
theorem dX3_node_17 : decode cX3_node 17 = .ok (.iaload, 1) := by decide +kernel
theorem dX3_node_18 : decode cX3_node 18 = .ok (.invokestatic 38, 3) := by decide +kernel
theorem dX3_node_21 : decode cX3_node 21 = .ok (.ifCond .eq 20, 3) := by decide +kernel
theorem dX3_node_24 : decode cX3_node 24 = .ok (.iload 4, 2) := by decide +kernel
theorem dX3_node_26 : decode cX3_node 26 = .ok (.getstatic 42, 3) := by decide +kernel
theorem dX3_node_29 : decode cX3_node 29 = .ok (.iload_n 2, 1) := by decide +kernel
theorem dX3_node_30 : decode cX3_node 30 = .ok (.iaload, 1) := by decide +kernel
theorem dX3_node_31 : decode cX3_node 31 = .ok (.invokestatic 38, 3) := by decide +kernel
theorem dX3_node_34 : decode cX3_node 34 = .ok (.ifCond .eq 7, 3) := by decide +kernel
theorem dX3_node_37 : decode cX3_node 37 = .ok (.iconst 1, 1) := by decide +kernel
theorem dX3_node_38 : decode cX3_node 38 = .ok (.goto 4, 3) := by decide +kernel
theorem dX3_node_41 : decode cX3_node 41 = .ok (.iconst 0, 1) := by decide +kernel
theorem dX3_node_42 : decode cX3_node 42 = .ok (.invokestatic 45, 3) := by decide +kernel
theorem dX3_node_45 : decode cX3_node 45 = .ok (.aload_n 0, 1) := by decide +kernel
theorem dX3_node_46 : decode cX3_node 46 = .ok (.getfield 11, 3) := by decide +kernel
theorem dX3_node_49 : decode cX3_node 49 = .ok (.iload_n 1, 1) := by decide +kernel
theorem dX3_node_50 : decode cX3_node 50 = .ok (.aaload, 1) := by decide +kernel
theorem dX3_node_51 : decode cX3_node 51 = .ok (.astore 5, 2) := by decide +kernel
theorem dX3_node_53 : decode cX3_node 53 = .ok (.aload 5, 2) := by decide +kernel
theorem dX3_node_55 : decode cX3_node 55 = .ok (.iload_n 2, 1) := by decide +kernel
theorem dX3_node_56 : decode cX3_node 56 = .ok (.iload 4, 2) := by decide +kernel
theorem dX3_node_58 : decode cX3_node 58 = .ok (.invokevirtual 49, 3) := by decide +kernel
theorem dX3_node_61 : decode cX3_node 61 = .ok (.ifCond .ne 13, 3) := by decide +kernel
theorem dX3_node_64 : decode cX3_node 64 = .ok (.new 52, 3) := by decide +kernel
theorem dX3_node_67 : decode cX3_node 67 = .ok (.dup, 1) := by decide +kernel
theorem dX3_node_68 : decode cX3_node 68 = .ok (.ldc 54, 2) := by decide +kernel
theorem dX3_node_70 : decode cX3_node 70 = .ok (.invokespecial 56, 3) := by decide +kernel
theorem dX3_node_73 : decode cX3_node 73 = .ok (.athrow, 1) := by decide +kernel
theorem dX3_node_74 : decode cX3_node 74 = .ok (.aload 5, 2) := by decide +kernel
theorem dX3_node_76 : decode cX3_node 76 = .ok (.iload_n 2, 1) := by decide +kernel
theorem dX3_node_77 : decode cX3_node 77 = .ok (.iload_n 3, 1) := by decide +kernel
theorem dX3_node_78 : decode cX3_node 78 = .ok (.iload 4, 2) := by decide +kernel
theorem dX3_node_80 : decode cX3_node 80 = .ok (.invokevirtual 59, 3) := by decide +kernel
theorem dX3_node_83 : decode cX3_node 83 = .ok (.aload 5, 2) := by decide +kernel
theorem dX3_node_85 : decode cX3_node 85 = .ok (.getfield 63, 3) := by decide +kernel
theorem dX3_node_88 : decode cX3_node 88 = .ok (.ireturn, 1) := by decide +kernel
theorem dX3_clear_0 : decode cX3_clear 0 = .ok (.iload_n 1, 1) := by decide +kernel
theorem dX3_clear_1 : decode cX3_clear 1 = .ok (.bipush 8, 2) := by decide +kernel
theorem dX3_clear_3 : decode cX3_clear 3 = .ok (.invokestatic 30, 3) := by decide +kernel
theorem dX3_clear_6 : decode cX3_clear 6 = .ok (.aload_n 0, 1) := by decide +kernel
theorem dX3_clear_7 : decode cX3_clear 7 = .ok (.getfield 11, 3) := by decide +kernel
theorem dX3_clear_10 : decode cX3_clear 10 = .ok (.iload_n 1, 1) := by decide +kernel
theorem dX3_clear_11 : decode cX3_clear 11 = .ok (.aaload, 1) := by decide +kernel
theorem dX3_clear_12 : decode cX3_clear 12 = .ok (.invokevirtual 67, 3) := by decide +kernel
theorem dX3_clear_15 : decode cX3_clear 15 = .ok (.return_, 1) := by decide +kernel
theorem dX3_run_0 : decode cX3_run 0 = .ok (.iload_n 1, 1) := by decide +kernel
theorem dX3_run_1 : decode cX3_run 1 = .ok (.bipush 8, 2) := by decide +kernel
theorem dX3_run_3 : decode cX3_run 3 = .ok (.invokestatic 30, 3) := by decide +kernel
theorem dX3_run_6 : decode cX3_run 6 = .ok (.aload_n 0, 1) := by decide +kernel
theorem dX3_run_7 : decode cX3_run 7 = .ok (.getfield 11, 3) := by decide +kernel
theorem dX3_run_10 : decode cX3_run 10 = .ok (.iload_n 1, 1) := by decide +kernel
theorem dX3_run_11 : decode cX3_run 11 = .ok (.aaload, 1) := by decide +kernel
theorem dX3_run_12 : decode cX3_run 12 = .ok (.astore_n 2, 1) := by decide +kernel
theorem dX3_run_13 : decode cX3_run 13 = .ok (.aload_n 2, 1) := by decide +kernel
theorem dX3_run_14 : decode cX3_run 14 = .ok (.invokevirtual 70, 3) := by decide +kernel
theorem dX3_run_17 : decode cX3_run 17 = .ok (.ifCond .ne 13, 3) := by decide +kernel
theorem dX3_run_20 : decode cX3_run 20 = .ok (.new 52, 3) := by decide +kernel
theorem dX3_run_23 : decode cX3_run 23 = .ok (.dup, 1) := by decide +kernel
theorem dX3_run_24 : decode cX3_run 24 = .ok (.ldc 74, 2) := by decide +kernel
theorem dX3_run_26 : decode cX3_run 26 = .ok (.invokespecial 56, 3) := by decide +kernel
theorem dX3_run_29 : decode cX3_run 29 = .ok (.athrow, 1) := by decide +kernel
theorem dX3_run_30 : decode cX3_run 30 = .ok (.aload_n 0, 1) := by decide +kernel
theorem dX3_run_31 : decode cX3_run 31 = .ok (.dup, 1) := by decide +kernel
theorem dX3_run_32 : decode cX3_run 32 = .ok (.getfield 76, 3) := by decide +kernel
theorem dX3_run_35 : decode cX3_run 35 = .ok (.iconst 1, 1) := by decide +kernel
theorem dX3_run_36 : decode cX3_run 36 = .ok (.iadd, 1) := by decide +kernel
theorem dX3_run_37 : decode cX3_run 37 = .ok (.putfield 76, 3) := by decide +kernel
theorem dX3_run_40 : decode cX3_run 40 = .ok (.aload_n 0, 1) := by decide +kernel
theorem dX3_run_41 : decode cX3_run 41 = .ok (.iconst 0, 1) := by decide +kernel
theorem dX3_run_42 : decode cX3_run 42 = .ok (.putfield 79, 3) := by decide +kernel
theorem dX3_run_45 : decode cX3_run 45 = .ok (.aload_n 0, 1) := by decide +kernel
theorem dX3_run_46 : decode cX3_run 46 = .ok (.getfield 19, 3) := by decide +kernel
theorem dX3_run_49 : decode cX3_run 49 = .ok (.iconst 0, 1) := by decide +kernel
theorem dX3_run_50 : decode cX3_run 50 = .ok (.putfield 82, 3) := by decide +kernel
theorem dX3_run_53 : decode cX3_run 53 = .ok (.aload_n 0, 1) := by decide +kernel
theorem dX3_run_54 : decode cX3_run 54 = .ok (.aload_n 2, 1) := by decide +kernel
theorem dX3_run_55 : decode cX3_run 55 = .ok (.iconst (-1), 1) := by decide +kernel
theorem dX3_run_56 : decode cX3_run 56 = .ok (.iconst 1, 1) := by decide +kernel
theorem dX3_run_57 : decode cX3_run 57 = .ok (.invokevirtual 85, 3) := by decide +kernel
theorem dX3_run_60 : decode cX3_run 60 = .ok (.lstore_n 3, 1) := by decide +kernel
theorem dX3_run_61 : decode cX3_run 61 = .ok (.aload_n 0, 1) := by decide +kernel
theorem dX3_run_62 : decode cX3_run 62 = .ok (.lload_n 3, 1) := by decide +kernel
theorem dX3_run_63 : decode cX3_run 63 = .ok (.invokestatic 89, 3) := by decide +kernel
theorem dX3_run_66 : decode cX3_run 66 = .ok (.iconst 3, 1) := by decide +kernel
theorem dX3_run_67 : decode cX3_run 67 = .ok (.if_icmp .ne 10, 3) := by decide +kernel
theorem dX3_run_70 : decode cX3_run 70 = .ok (.lload_n 3, 1) := by decide +kernel
theorem dX3_run_71 : decode cX3_run 71 = .ok (.invokestatic 93, 3) := by decide +kernel
theorem dX3_run_74 : decode cX3_run 74 = .ok (.goto 4, 3) := by decide +kernel
theorem dX3_run_77 : decode cX3_run 77 = .ok (.iconst 0, 1) := by decide +kernel
theorem dX3_run_78 : decode cX3_run 78 = .ok (.putfield 96, 3) := by decide +kernel
theorem dX3_run_81 : decode cX3_run 81 = .ok (.lload_n 3, 1) := by decide +kernel
theorem dX3_run_82 : decode cX3_run 82 = .ok (.invokestatic 99, 3) := by decide +kernel
theorem dX3_run_85 : decode cX3_run 85 = .ok (.ireturn, 1) := by decide +kernel
theorem dX3_given_0 : decode cX3_given 0 = .ok (.aload_n 0, 1) := by decide +kernel
theorem dX3_given_1 : decode cX3_given 1 = .ok (.getfield 96, 3) := by decide +kernel
theorem dX3_given_4 : decode cX3_given 4 = .ok (.ireturn, 1) := by decide +kernel
theorem dX3_number_0 : decode cX3_number 0 = .ok (.iload_n 1, 1) := by decide +kernel
theorem dX3_number_1 : decode cX3_number 1 = .ok (.bipush 8, 2) := by decide +kernel
theorem dX3_number_3 : decode cX3_number 3 = .ok (.invokestatic 30, 3) := by decide +kernel
theorem dX3_number_6 : decode cX3_number 6 = .ok (.aload_n 0, 1) := by decide +kernel
theorem dX3_number_7 : decode cX3_number 7 = .ok (.getfield 19, 3) := by decide +kernel
theorem dX3_number_10 : decode cX3_number 10 = .ok (.getfield 102, 3) := by decide +kernel
theorem dX3_number_13 : decode cX3_number 13 = .ok (.iload_n 1, 1) := by decide +kernel
theorem dX3_number_14 : decode cX3_number 14 = .ok (.iaload, 1) := by decide +kernel
theorem dX3_number_15 : decode cX3_number 15 = .ok (.ireturn, 1) := by decide +kernel
theorem dX3_row_0 : decode cX3_row 0 = .ok (.iload_n 1, 1) := by decide +kernel
theorem dX3_row_1 : decode cX3_row 1 = .ok (.aload_n 0, 1) := by decide +kernel
theorem dX3_row_2 : decode cX3_row 2 = .ok (.getfield 19, 3) := by decide +kernel
theorem dX3_row_5 : decode cX3_row 5 = .ok (.getfield 105, 3) := by decide +kernel
theorem dX3_row_8 : decode cX3_row 8 = .ok (.invokestatic 30, 3) := by decide +kernel
theorem dX3_row_11 : decode cX3_row 11 = .ok (.aload_n 0, 1) := by decide +kernel
theorem dX3_row_12 : decode cX3_row 12 = .ok (.getfield 19, 3) := by decide +kernel
theorem dX3_row_15 : decode cX3_row 15 = .ok (.getfield 108, 3) := by decide +kernel
theorem dX3_row_18 : decode cX3_row 18 = .ok (.iload_n 1, 1) := by decide +kernel
theorem dX3_row_19 : decode cX3_row 19 = .ok (.iaload, 1) := by decide +kernel
theorem dX3_row_20 : decode cX3_row 20 = .ok (.ireturn, 1) := by decide +kernel
theorem dX3_log_0 : decode cX3_log 0 = .ok (.iload_n 1, 1) := by decide +kernel
theorem dX3_log_1 : decode cX3_log 1 = .ok (.aload_n 0, 1) := by decide +kernel
theorem dX3_log_2 : decode cX3_log 2 = .ok (.getfield 19, 3) := by decide +kernel
theorem dX3_log_5 : decode cX3_log 5 = .ok (.getfield 82, 3) := by decide +kernel
theorem dX3_log_8 : decode cX3_log 8 = .ok (.invokestatic 30, 3) := by decide +kernel
theorem dX3_log_11 : decode cX3_log 11 = .ok (.aload_n 0, 1) := by decide +kernel
theorem dX3_log_12 : decode cX3_log 12 = .ok (.getfield 19, 3) := by decide +kernel
theorem dX3_log_15 : decode cX3_log 15 = .ok (.getfield 111, 3) := by decide +kernel
theorem dX3_log_18 : decode cX3_log 18 = .ok (.iload_n 1, 1) := by decide +kernel
theorem dX3_log_19 : decode cX3_log 19 = .ok (.iaload, 1) := by decide +kernel
theorem dX3_log_20 : decode cX3_log 20 = .ok (.ireturn, 1) := by decide +kernel
theorem dX3_count_0 : decode cX3_count 0 = .ok (.iload_n 1, 1) := by decide +kernel
theorem dX3_count_1 : decode cX3_count 1 = .ok (.tableswitch 131 0 13 #[71, 79, 87, 92, 100, 108, 113, 131, 131, 131, 118, 118, 118, 118], 71) := by decide +kernel
theorem dX3_count_72 : decode cX3_count 72 = .ok (.aload_n 0, 1) := by decide +kernel
theorem dX3_count_73 : decode cX3_count 73 = .ok (.getfield 19, 3) := by decide +kernel
theorem dX3_count_76 : decode cX3_count 76 = .ok (.getfield 105, 3) := by decide +kernel
theorem dX3_count_79 : decode cX3_count 79 = .ok (.ireturn, 1) := by decide +kernel
theorem dX3_count_80 : decode cX3_count 80 = .ok (.aload_n 0, 1) := by decide +kernel
theorem dX3_count_81 : decode cX3_count 81 = .ok (.getfield 19, 3) := by decide +kernel
theorem dX3_count_84 : decode cX3_count 84 = .ok (.getfield 82, 3) := by decide +kernel
theorem dX3_count_87 : decode cX3_count 87 = .ok (.ireturn, 1) := by decide +kernel
theorem dX3_count_88 : decode cX3_count 88 = .ok (.aload_n 0, 1) := by decide +kernel
theorem dX3_count_89 : decode cX3_count 89 = .ok (.getfield 79, 3) := by decide +kernel
theorem dX3_count_92 : decode cX3_count 92 = .ok (.ireturn, 1) := by decide +kernel
theorem dX3_count_93 : decode cX3_count 93 = .ok (.aload_n 0, 1) := by decide +kernel
theorem dX3_count_94 : decode cX3_count 94 = .ok (.getfield 26, 3) := by decide +kernel
theorem dX3_count_97 : decode cX3_count 97 = .ok (.getfield 114, 3) := by decide +kernel
theorem dX3_count_100 : decode cX3_count 100 = .ok (.ireturn, 1) := by decide +kernel
theorem dX3_count_101 : decode cX3_count 101 = .ok (.aload_n 0, 1) := by decide +kernel
theorem dX3_count_102 : decode cX3_count 102 = .ok (.getfield 26, 3) := by decide +kernel
theorem dX3_count_105 : decode cX3_count 105 = .ok (.getfield 117, 3) := by decide +kernel
theorem dX3_count_108 : decode cX3_count 108 = .ok (.ireturn, 1) := by decide +kernel
theorem dX3_count_109 : decode cX3_count 109 = .ok (.aload_n 0, 1) := by decide +kernel
theorem dX3_count_110 : decode cX3_count 110 = .ok (.invokevirtual 120, 3) := by decide +kernel
theorem dX3_count_113 : decode cX3_count 113 = .ok (.ireturn, 1) := by decide +kernel
theorem dX3_count_114 : decode cX3_count 114 = .ok (.aload_n 0, 1) := by decide +kernel
theorem dX3_count_115 : decode cX3_count 115 = .ok (.getfield 76, 3) := by decide +kernel
theorem dX3_count_118 : decode cX3_count 118 = .ok (.ireturn, 1) := by decide +kernel
theorem dX3_count_119 : decode cX3_count 119 = .ok (.aload_n 0, 1) := by decide +kernel
theorem dX3_count_120 : decode cX3_count 120 = .ok (.getfield 19, 3) := by decide +kernel
theorem dX3_count_123 : decode cX3_count 123 = .ok (.getfield 124, 3) := by decide +kernel
theorem dX3_count_126 : decode cX3_count 126 = .ok (.iload_n 1, 1) := by decide +kernel
theorem dX3_count_127 : decode cX3_count 127 = .ok (.bipush 10, 2) := by decide +kernel
theorem dX3_count_129 : decode cX3_count 129 = .ok (.isub, 1) := by decide +kernel
theorem dX3_count_130 : decode cX3_count 130 = .ok (.iaload, 1) := by decide +kernel
theorem dX3_count_131 : decode cX3_count 131 = .ok (.ireturn, 1) := by decide +kernel
theorem dX3_count_132 : decode cX3_count 132 = .ok (.iconst (-1), 1) := by decide +kernel
theorem dX3_count_133 : decode cX3_count 133 = .ok (.ireturn, 1) := by decide +kernel
theorem dX3_demand_0 : decode cX3_demand 0 = .ok (.iload_n 0, 1) := by decide +kernel
theorem dX3_demand_1 : decode cX3_demand 1 = .ok (.ifCond .ne 13, 3) := by decide +kernel
theorem dX3_demand_4 : decode cX3_demand 4 = .ok (.new 127, 3) := by decide +kernel
theorem dX3_demand_7 : decode cX3_demand 7 = .ok (.dup, 1) := by decide +kernel
theorem dX3_demand_8 : decode cX3_demand 8 = .ok (.ldc 129, 2) := by decide +kernel
theorem dX3_demand_10 : decode cX3_demand 10 = .ok (.invokespecial 131, 3) := by decide +kernel
theorem dX3_demand_13 : decode cX3_demand 13 = .ok (.athrow, 1) := by decide +kernel
theorem dX3_demand_14 : decode cX3_demand 14 = .ok (.return_, 1) := by decide +kernel
theorem dX3_demandRange_0 : decode cX3_demandRange 0 = .ok (.iload_n 0, 1) := by decide +kernel
theorem dX3_demandRange_1 : decode cX3_demandRange 1 = .ok (.ifCond .lt 12, 3) := by decide +kernel
theorem dX3_demandRange_4 : decode cX3_demandRange 4 = .ok (.iload_n 0, 1) := by decide +kernel
theorem dX3_demandRange_5 : decode cX3_demandRange 5 = .ok (.iload_n 1, 1) := by decide +kernel
theorem dX3_demandRange_6 : decode cX3_demandRange 6 = .ok (.if_icmp .ge 7, 3) := by decide +kernel
theorem dX3_demandRange_9 : decode cX3_demandRange 9 = .ok (.iconst 1, 1) := by decide +kernel
theorem dX3_demandRange_10 : decode cX3_demandRange 10 = .ok (.goto 4, 3) := by decide +kernel
theorem dX3_demandRange_13 : decode cX3_demandRange 13 = .ok (.iconst 0, 1) := by decide +kernel
theorem dX3_demandRange_14 : decode cX3_demandRange 14 = .ok (.invokestatic 45, 3) := by decide +kernel
theorem dX3_demandRange_17 : decode cX3_demandRange 17 = .ok (.return_, 1) := by decide +kernel
theorem dX3_isBelow_0 : decode cX3_isBelow 0 = .ok (.iload_n 1, 1) := by decide +kernel
theorem dX3_isBelow_1 : decode cX3_isBelow 1 = .ok (.ifCond .eq 12, 3) := by decide +kernel
theorem dX3_isBelow_4 : decode cX3_isBelow 4 = .ok (.iload_n 0, 1) := by decide +kernel
theorem dX3_isBelow_5 : decode cX3_isBelow 5 = .ok (.ifCond .lt 12, 3) := by decide +kernel
theorem dX3_isBelow_8 : decode cX3_isBelow 8 = .ok (.iload_n 0, 1) := by decide +kernel
theorem dX3_isBelow_9 : decode cX3_isBelow 9 = .ok (.iload_n 1, 1) := by decide +kernel
theorem dX3_isBelow_10 : decode cX3_isBelow 10 = .ok (.if_icmp .ge 7, 3) := by decide +kernel
theorem dX3_isBelow_13 : decode cX3_isBelow 13 = .ok (.iconst 1, 1) := by decide +kernel
theorem dX3_isBelow_14 : decode cX3_isBelow 14 = .ok (.goto 4, 3) := by decide +kernel
theorem dX3_isBelow_17 : decode cX3_isBelow 17 = .ok (.iconst 0, 1) := by decide +kernel
theorem dX3_isBelow_18 : decode cX3_isBelow 18 = .ok (.ireturn, 1) := by decide +kernel
theorem dX3_allNodes_0 : decode cX3_allNodes 0 = .ok (.iconst 0, 1) := by decide +kernel
theorem dX3_allNodes_1 : decode cX3_allNodes 1 = .ok (.istore_n 1, 1) := by decide +kernel
theorem dX3_allNodes_2 : decode cX3_allNodes 2 = .ok (.iconst 0, 1) := by decide +kernel
theorem dX3_allNodes_3 : decode cX3_allNodes 3 = .ok (.istore_n 2, 1) := by decide +kernel
theorem dX3_allNodes_4 : decode cX3_allNodes 4 = .ok (.iload_n 2, 1) := by decide +kernel
theorem dX3_allNodes_5 : decode cX3_allNodes 5 = .ok (.bipush 8, 2) := by decide +kernel
theorem dX3_allNodes_7 : decode cX3_allNodes 7 = .ok (.if_icmp .ge 21, 3) := by decide +kernel
theorem dX3_allNodes_10 : decode cX3_allNodes 10 = .ok (.iload_n 1, 1) := by decide +kernel
theorem dX3_allNodes_11 : decode cX3_allNodes 11 = .ok (.aload_n 0, 1) := by decide +kernel
theorem dX3_allNodes_12 : decode cX3_allNodes 12 = .ok (.getfield 11, 3) := by decide +kernel
theorem dX3_allNodes_15 : decode cX3_allNodes 15 = .ok (.iload_n 2, 1) := by decide +kernel
theorem dX3_allNodes_16 : decode cX3_allNodes 16 = .ok (.aaload, 1) := by decide +kernel
theorem dX3_allNodes_17 : decode cX3_allNodes 17 = .ok (.getfield 63, 3) := by decide +kernel
theorem dX3_allNodes_20 : decode cX3_allNodes 20 = .ok (.iadd, 1) := by decide +kernel
theorem dX3_allNodes_21 : decode cX3_allNodes 21 = .ok (.istore_n 1, 1) := by decide +kernel
theorem dX3_allNodes_22 : decode cX3_allNodes 22 = .ok (.iinc 2 1, 3) := by decide +kernel
theorem dX3_allNodes_25 : decode cX3_allNodes 25 = .ok (.goto (-21), 3) := by decide +kernel
theorem dX3_allNodes_28 : decode cX3_allNodes 28 = .ok (.iload_n 1, 1) := by decide +kernel
theorem dX3_allNodes_29 : decode cX3_allNodes 29 = .ok (.ireturn, 1) := by decide +kernel
theorem dX3_wayOf_0 : decode cX3_wayOf 0 = .ok (.iload_n 1, 1) := by decide +kernel
theorem dX3_wayOf_1 : decode cX3_wayOf 1 = .ok (.i2l, 1) := by decide +kernel
theorem dX3_wayOf_2 : decode cX3_wayOf 2 = .ok (.iconst 3, 1) := by decide +kernel
theorem dX3_wayOf_3 : decode cX3_wayOf 3 = .ok (.lshl, 1) := by decide +kernel
theorem dX3_wayOf_4 : decode cX3_wayOf 4 = .ok (.iload_n 0, 1) := by decide +kernel
theorem dX3_wayOf_5 : decode cX3_wayOf 5 = .ok (.i2l, 1) := by decide +kernel
theorem dX3_wayOf_6 : decode cX3_wayOf 6 = .ok (.lor, 1) := by decide +kernel
theorem dX3_wayOf_7 : decode cX3_wayOf 7 = .ok (.lreturn, 1) := by decide +kernel
theorem dX3_howOf_0 : decode cX3_howOf 0 = .ok (.lload_n 0, 1) := by decide +kernel
theorem dX3_howOf_1 : decode cX3_howOf 1 = .ok (.ldc2_w 132, 3) := by decide +kernel
theorem dX3_howOf_4 : decode cX3_howOf 4 = .ok (.land, 1) := by decide +kernel
theorem dX3_howOf_5 : decode cX3_howOf 5 = .ok (.l2i, 1) := by decide +kernel
theorem dX3_howOf_6 : decode cX3_howOf 6 = .ok (.ireturn, 1) := by decide +kernel
theorem dX3_numberOf_0 : decode cX3_numberOf 0 = .ok (.lload_n 0, 1) := by decide +kernel
theorem dX3_numberOf_1 : decode cX3_numberOf 1 = .ok (.iconst 3, 1) := by decide +kernel
theorem dX3_numberOf_2 : decode cX3_numberOf 2 = .ok (.lshr, 1) := by decide +kernel
theorem dX3_numberOf_3 : decode cX3_numberOf 3 = .ok (.l2i, 1) := by decide +kernel
theorem dX3_numberOf_4 : decode cX3_numberOf 4 = .ok (.ireturn, 1) := by decide +kernel
theorem dX3_failing_0 : decode cX3_failing 0 = .ok (.iconst 4, 1) := by decide +kernel
theorem dX3_failing_1 : decode cX3_failing 1 = .ok (.iload_n 0, 1) := by decide +kernel
theorem dX3_failing_2 : decode cX3_failing 2 = .ok (.invokestatic 134, 3) := by decide +kernel
theorem dX3_failing_5 : decode cX3_failing 5 = .ok (.lreturn, 1) := by decide +kernel
theorem dX3_answerOf_0 : decode cX3_answerOf 0 = .ok (.lload_n 0, 1) := by decide +kernel
theorem dX3_answerOf_1 : decode cX3_answerOf 1 = .ok (.invokestatic 89, 3) := by decide +kernel
theorem dX3_answerOf_4 : decode cX3_answerOf 4 = .ok (.tableswitch 39 3 5 #[28, 30, 37], 28) := by decide +kernel
theorem dX3_answerOf_32 : decode cX3_answerOf 32 = .ok (.iconst 1, 1) := by decide +kernel
theorem dX3_answerOf_33 : decode cX3_answerOf 33 = .ok (.ireturn, 1) := by decide +kernel
theorem dX3_answerOf_34 : decode cX3_answerOf 34 = .ok (.iconst 2, 1) := by decide +kernel
theorem dX3_answerOf_35 : decode cX3_answerOf 35 = .ok (.lload_n 0, 1) := by decide +kernel
theorem dX3_answerOf_36 : decode cX3_answerOf 36 = .ok (.invokestatic 93, 3) := by decide +kernel
theorem dX3_answerOf_39 : decode cX3_answerOf 39 = .ok (.iadd, 1) := by decide +kernel
theorem dX3_answerOf_40 : decode cX3_answerOf 40 = .ok (.ireturn, 1) := by decide +kernel
theorem dX3_answerOf_41 : decode cX3_answerOf 41 = .ok (.iconst (-1), 1) := by decide +kernel
theorem dX3_answerOf_42 : decode cX3_answerOf 42 = .ok (.ireturn, 1) := by decide +kernel
theorem dX3_answerOf_43 : decode cX3_answerOf 43 = .ok (.iconst 0, 1) := by decide +kernel
theorem dX3_answerOf_44 : decode cX3_answerOf 44 = .ok (.ireturn, 1) := by decide +kernel
theorem dX3_canPay_0 : decode cX3_canPay 0 = .ok (.aload_n 0, 1) := by decide +kernel
theorem dX3_canPay_1 : decode cX3_canPay 1 = .ok (.getfield 79, 3) := by decide +kernel
theorem dX3_canPay_4 : decode cX3_canPay 4 = .ok (.bipush 60, 2) := by decide +kernel
theorem dX3_canPay_6 : decode cX3_canPay 6 = .ok (.if_icmp .lt 5, 3) := by decide +kernel
theorem dX3_canPay_9 : decode cX3_canPay 9 = .ok (.iconst 0, 1) := by decide +kernel
theorem dX3_canPay_10 : decode cX3_canPay 10 = .ok (.ireturn, 1) := by decide +kernel
theorem dX3_canPay_11 : decode cX3_canPay 11 = .ok (.aload_n 0, 1) := by decide +kernel
theorem dX3_canPay_12 : decode cX3_canPay 12 = .ok (.dup, 1) := by decide +kernel
theorem dX3_canPay_13 : decode cX3_canPay 13 = .ok (.getfield 79, 3) := by decide +kernel
theorem dX3_canPay_16 : decode cX3_canPay 16 = .ok (.iconst 1, 1) := by decide +kernel
theorem dX3_canPay_17 : decode cX3_canPay 17 = .ok (.iadd, 1) := by decide +kernel
theorem dX3_canPay_18 : decode cX3_canPay 18 = .ok (.putfield 79, 3) := by decide +kernel
theorem dX3_canPay_21 : decode cX3_canPay 21 = .ok (.iconst 1, 1) := by decide +kernel
theorem dX3_canPay_22 : decode cX3_canPay 22 = .ok (.ireturn, 1) := by decide +kernel
theorem dX3_doPart_0 : decode cX3_doPart 0 = .ok (.iload_n 2, 1) := by decide +kernel
theorem dX3_doPart_1 : decode cX3_doPart 1 = .ok (.iconst (-1), 1) := by decide +kernel
theorem dX3_doPart_2 : decode cX3_doPart 2 = .ok (.if_icmp .ne 10, 3) := by decide +kernel
theorem dX3_doPart_5 : decode cX3_doPart 5 = .ok (.aload_n 1, 1) := by decide +kernel
theorem dX3_doPart_6 : decode cX3_doPart 6 = .ok (.getfield 63, 3) := by decide +kernel
theorem dX3_doPart_9 : decode cX3_doPart 9 = .ok (.goto 9, 3) := by decide +kernel
theorem dX3_doPart_12 : decode cX3_doPart 12 = .ok (.aload_n 1, 1) := by decide +kernel
theorem dX3_doPart_13 : decode cX3_doPart 13 = .ok (.getfield 138, 3) := by decide +kernel
theorem dX3_doPart_16 : decode cX3_doPart 16 = .ok (.iload_n 2, 1) := by decide +kernel
theorem dX3_doPart_17 : decode cX3_doPart 17 = .ok (.iaload, 1) := by decide +kernel
theorem dX3_doPart_18 : decode cX3_doPart 18 = .ok (.istore 4, 2) := by decide +kernel
theorem dX3_doPart_20 : decode cX3_doPart 20 = .ok (.iload_n 2, 1) := by decide +kernel
theorem dX3_doPart_21 : decode cX3_doPart 21 = .ok (.iconst 1, 1) := by decide +kernel
theorem dX3_doPart_22 : decode cX3_doPart 22 = .ok (.iadd, 1) := by decide +kernel
theorem dX3_doPart_23 : decode cX3_doPart 23 = .ok (.istore 5, 2) := by decide +kernel
theorem dX3_doPart_25 : decode cX3_doPart 25 = .ok (.iload 5, 2) := by decide +kernel
theorem dX3_doPart_27 : decode cX3_doPart 27 = .ok (.iload 4, 2) := by decide +kernel
theorem dX3_doPart_29 : decode cX3_doPart 29 = .ok (.if_icmp .ge 42, 3) := by decide +kernel
theorem dX3_doPart_32 : decode cX3_doPart 32 = .ok (.aload_n 0, 1) := by decide +kernel
theorem dX3_doPart_33 : decode cX3_doPart 33 = .ok (.aload_n 1, 1) := by decide +kernel
theorem dX3_doPart_34 : decode cX3_doPart 34 = .ok (.iload 5, 2) := by decide +kernel
theorem dX3_doPart_36 : decode cX3_doPart 36 = .ok (.iload_n 3, 1) := by decide +kernel
theorem dX3_doPart_37 : decode cX3_doPart 37 = .ok (.invokevirtual 141, 3) := by decide +kernel
theorem dX3_doPart_40 : decode cX3_doPart 40 = .ok (.lstore 6, 2) := by decide +kernel
theorem dX3_doPart_42 : decode cX3_doPart 42 = .ok (.lload 6, 2) := by decide +kernel
theorem dX3_doPart_44 : decode cX3_doPart 44 = .ok (.lconst 0, 1) := by decide +kernel
theorem dX3_doPart_45 : decode cX3_doPart 45 = .ok (.lcmp, 1) := by decide +kernel
theorem dX3_doPart_46 : decode cX3_doPart 46 = .ok (.ifCond .eq 6, 3) := by decide +kernel
theorem dX3_doPart_49 : decode cX3_doPart 49 = .ok (.lload 6, 2) := by decide +kernel
theorem dX3_doPart_51 : decode cX3_doPart 51 = .ok (.lreturn, 1) := by decide +kernel
theorem dX3_doPart_52 : decode cX3_doPart 52 = .ok (.iload 5, 2) := by decide +kernel
theorem dX3_doPart_54 : decode cX3_doPart 54 = .ok (.aload_n 1, 1) := by decide +kernel
theorem dX3_doPart_55 : decode cX3_doPart 55 = .ok (.getfield 144, 3) := by decide +kernel
theorem dX3_doPart_58 : decode cX3_doPart 58 = .ok (.iload 5, 2) := by decide +kernel
theorem dX3_doPart_60 : decode cX3_doPart 60 = .ok (.iaload, 1) := by decide +kernel
theorem dX3_doPart_61 : decode cX3_doPart 61 = .ok (.invokestatic 147, 3) := by decide +kernel
theorem dX3_doPart_64 : decode cX3_doPart 64 = .ok (.iconst 1, 1) := by decide +kernel
theorem dX3_doPart_65 : decode cX3_doPart 65 = .ok (.iadd, 1) := by decide +kernel
theorem dX3_doPart_66 : decode cX3_doPart 66 = .ok (.istore 5, 2) := by decide +kernel
theorem dX3_doPart_68 : decode cX3_doPart 68 = .ok (.goto (-43), 3) := by decide +kernel
theorem dX3_doPart_71 : decode cX3_doPart 71 = .ok (.lconst 0, 1) := by decide +kernel
theorem dX3_doPart_72 : decode cX3_doPart 72 = .ok (.lreturn, 1) := by decide +kernel
theorem dX3_doNode_0 : decode cX3_doNode 0 = .ok (.aload_n 0, 1) := by decide +kernel
theorem dX3_doNode_1 : decode cX3_doNode 1 = .ok (.invokevirtual 153, 3) := by decide +kernel
theorem dX3_doNode_4 : decode cX3_doNode 4 = .ok (.ifCond .ne 9, 3) := by decide +kernel
theorem dX3_doNode_7 : decode cX3_doNode 7 = .ok (.iconst 5, 1) := by decide +kernel
theorem dX3_doNode_8 : decode cX3_doNode 8 = .ok (.iconst 0, 1) := by decide +kernel
theorem dX3_doNode_9 : decode cX3_doNode 9 = .ok (.invokestatic 134, 3) := by decide +kernel
theorem dX3_doNode_12 : decode cX3_doNode 12 = .ok (.lreturn, 1) := by decide +kernel
theorem dX3_doNode_13 : decode cX3_doNode 13 = .ok (.aload_n 1, 1) := by decide +kernel
theorem dX3_doNode_14 : decode cX3_doNode 14 = .ok (.getfield 156, 3) := by decide +kernel
theorem dX3_doNode_17 : decode cX3_doNode 17 = .ok (.iload_n 2, 1) := by decide +kernel
theorem dX3_doNode_18 : decode cX3_doNode 18 = .ok (.iaload, 1) := by decide +kernel
theorem dX3_doNode_19 : decode cX3_doNode 19 = .ok (.istore 4, 2) := by decide +kernel
theorem dX3_doNode_21 : decode cX3_doNode 21 = .ok (.aload_n 1, 1) := by decide +kernel
theorem dX3_doNode_22 : decode cX3_doNode 22 = .ok (.getfield 159, 3) := by decide +kernel
theorem dX3_doNode_25 : decode cX3_doNode 25 = .ok (.iload_n 2, 1) := by decide +kernel
theorem dX3_doNode_26 : decode cX3_doNode 26 = .ok (.iaload, 1) := by decide +kernel
theorem dX3_doNode_27 : decode cX3_doNode 27 = .ok (.istore 5, 2) := by decide +kernel
theorem dX3_doNode_29 : decode cX3_doNode 29 = .ok (.aload_n 1, 1) := by decide +kernel
theorem dX3_doNode_30 : decode cX3_doNode 30 = .ok (.getfield 162, 3) := by decide +kernel
theorem dX3_doNode_33 : decode cX3_doNode 33 = .ok (.iload_n 2, 1) := by decide +kernel
theorem dX3_doNode_34 : decode cX3_doNode 34 = .ok (.iaload, 1) := by decide +kernel
theorem dX3_doNode_35 : decode cX3_doNode 35 = .ok (.tableswitch 150 9 21 #[144, 65, 150, 150, 73, 81, 89, 150, 115, 122, 129, 105, 97], 65) := by decide +kernel
theorem dX3_doNode_100 : decode cX3_doNode 100 = .ok (.aload_n 0, 1) := by decide +kernel
theorem dX3_doNode_101 : decode cX3_doNode 101 = .ok (.aload_n 1, 1) := by decide +kernel
theorem dX3_doNode_102 : decode cX3_doNode 102 = .ok (.iload_n 2, 1) := by decide +kernel
theorem dX3_doNode_103 : decode cX3_doNode 103 = .ok (.iload_n 3, 1) := by decide +kernel
theorem dX3_doNode_104 : decode cX3_doNode 104 = .ok (.invokevirtual 165, 3) := by decide +kernel
theorem dX3_doNode_107 : decode cX3_doNode 107 = .ok (.lreturn, 1) := by decide +kernel
theorem dX3_doNode_108 : decode cX3_doNode 108 = .ok (.aload_n 0, 1) := by decide +kernel
theorem dX3_doNode_109 : decode cX3_doNode 109 = .ok (.aload_n 1, 1) := by decide +kernel
theorem dX3_doNode_110 : decode cX3_doNode 110 = .ok (.iload_n 2, 1) := by decide +kernel
theorem dX3_doNode_111 : decode cX3_doNode 111 = .ok (.iload_n 3, 1) := by decide +kernel
theorem dX3_doNode_112 : decode cX3_doNode 112 = .ok (.invokevirtual 168, 3) := by decide +kernel
theorem dX3_doNode_115 : decode cX3_doNode 115 = .ok (.lreturn, 1) := by decide +kernel
theorem dX3_doNode_116 : decode cX3_doNode 116 = .ok (.aload_n 0, 1) := by decide +kernel
theorem dX3_doNode_117 : decode cX3_doNode 117 = .ok (.aload_n 1, 1) := by decide +kernel
theorem dX3_doNode_118 : decode cX3_doNode 118 = .ok (.iload_n 2, 1) := by decide +kernel
theorem dX3_doNode_119 : decode cX3_doNode 119 = .ok (.iload_n 3, 1) := by decide +kernel
theorem dX3_doNode_120 : decode cX3_doNode 120 = .ok (.invokevirtual 171, 3) := by decide +kernel
theorem dX3_doNode_123 : decode cX3_doNode 123 = .ok (.lreturn, 1) := by decide +kernel
theorem dX3_doNode_124 : decode cX3_doNode 124 = .ok (.aload_n 0, 1) := by decide +kernel
theorem dX3_doNode_125 : decode cX3_doNode 125 = .ok (.aload_n 1, 1) := by decide +kernel
theorem dX3_doNode_126 : decode cX3_doNode 126 = .ok (.iload_n 2, 1) := by decide +kernel
theorem dX3_doNode_127 : decode cX3_doNode 127 = .ok (.iload_n 3, 1) := by decide +kernel
theorem dX3_doNode_128 : decode cX3_doNode 128 = .ok (.invokevirtual 174, 3) := by decide +kernel
theorem dX3_doNode_131 : decode cX3_doNode 131 = .ok (.lreturn, 1) := by decide +kernel
theorem dX3_doNode_132 : decode cX3_doNode 132 = .ok (.aload_n 0, 1) := by decide +kernel
theorem dX3_doNode_133 : decode cX3_doNode 133 = .ok (.aload_n 1, 1) := by decide +kernel
theorem dX3_doNode_134 : decode cX3_doNode 134 = .ok (.iload_n 2, 1) := by decide +kernel
theorem dX3_doNode_135 : decode cX3_doNode 135 = .ok (.iload_n 3, 1) := by decide +kernel
theorem dX3_doNode_136 : decode cX3_doNode 136 = .ok (.invokevirtual 177, 3) := by decide +kernel
theorem dX3_doNode_139 : decode cX3_doNode 139 = .ok (.lreturn, 1) := by decide +kernel
theorem dX3_doNode_140 : decode cX3_doNode 140 = .ok (.aload_n 0, 1) := by decide +kernel
theorem dX3_doNode_141 : decode cX3_doNode 141 = .ok (.iload 4, 2) := by decide +kernel
theorem dX3_doNode_143 : decode cX3_doNode 143 = .ok (.iload 5, 2) := by decide +kernel
theorem dX3_doNode_145 : decode cX3_doNode 145 = .ok (.iload_n 3, 1) := by decide +kernel
theorem dX3_doNode_146 : decode cX3_doNode 146 = .ok (.invokevirtual 180, 3) := by decide +kernel
theorem dX3_doNode_149 : decode cX3_doNode 149 = .ok (.lreturn, 1) := by decide +kernel
theorem dX3_doNode_150 : decode cX3_doNode 150 = .ok (.iconst 1, 1) := by decide +kernel
theorem dX3_doNode_151 : decode cX3_doNode 151 = .ok (.iload 5, 2) := by decide +kernel
theorem dX3_doNode_153 : decode cX3_doNode 153 = .ok (.invokestatic 134, 3) := by decide +kernel
theorem dX3_doNode_156 : decode cX3_doNode 156 = .ok (.lreturn, 1) := by decide +kernel
theorem dX3_doNode_157 : decode cX3_doNode 157 = .ok (.iconst 2, 1) := by decide +kernel
theorem dX3_doNode_158 : decode cX3_doNode 158 = .ok (.iload 5, 2) := by decide +kernel
theorem dX3_doNode_160 : decode cX3_doNode 160 = .ok (.invokestatic 134, 3) := by decide +kernel
theorem dX3_doNode_163 : decode cX3_doNode 163 = .ok (.lreturn, 1) := by decide +kernel
theorem dX3_doNode_164 : decode cX3_doNode 164 = .ok (.iconst 3, 1) := by decide +kernel
theorem dX3_doNode_165 : decode cX3_doNode 165 = .ok (.aload_n 0, 1) := by decide +kernel
theorem dX3_doNode_166 : decode cX3_doNode 166 = .ok (.getfield 19, 3) := by decide +kernel
theorem dX3_doNode_169 : decode cX3_doNode 169 = .ok (.getfield 102, 3) := by decide +kernel
theorem dX3_doNode_172 : decode cX3_doNode 172 = .ok (.iload 4, 2) := by decide +kernel
theorem dX3_doNode_174 : decode cX3_doNode 174 = .ok (.iaload, 1) := by decide +kernel
theorem dX3_doNode_175 : decode cX3_doNode 175 = .ok (.invokestatic 134, 3) := by decide +kernel
theorem dX3_doNode_178 : decode cX3_doNode 178 = .ok (.lreturn, 1) := by decide +kernel
theorem dX3_doNode_179 : decode cX3_doNode 179 = .ok (.iload 5, 2) := by decide +kernel
theorem dX3_doNode_181 : decode cX3_doNode 181 = .ok (.invokestatic 184, 3) := by decide +kernel
theorem dX3_doNode_184 : decode cX3_doNode 184 = .ok (.lreturn, 1) := by decide +kernel
theorem dX3_doNode_185 : decode cX3_doNode 185 = .ok (.aload_n 0, 1) := by decide +kernel
theorem dX3_doNode_186 : decode cX3_doNode 186 = .ok (.aload_n 1, 1) := by decide +kernel
theorem dX3_doNode_187 : decode cX3_doNode 187 = .ok (.getfield 162, 3) := by decide +kernel
theorem dX3_doNode_190 : decode cX3_doNode 190 = .ok (.iload_n 2, 1) := by decide +kernel
theorem dX3_doNode_191 : decode cX3_doNode 191 = .ok (.iaload, 1) := by decide +kernel
theorem dX3_doNode_192 : decode cX3_doNode 192 = .ok (.iload 4, 2) := by decide +kernel
theorem dX3_doNode_194 : decode cX3_doNode 194 = .ok (.iload 5, 2) := by decide +kernel
theorem dX3_doNode_196 : decode cX3_doNode 196 = .ok (.invokevirtual 188, 3) := by decide +kernel
theorem dX3_doNode_199 : decode cX3_doNode 199 = .ok (.lreturn, 1) := by decide +kernel
theorem dX3_doTry_0 : decode cX3_doTry 0 = .ok (.aload_n 0, 1) := by decide +kernel
theorem dX3_doTry_1 : decode cX3_doTry 1 = .ok (.aload_n 1, 1) := by decide +kernel
theorem dX3_doTry_2 : decode cX3_doTry 2 = .ok (.iload_n 2, 1) := by decide +kernel
theorem dX3_doTry_3 : decode cX3_doTry 3 = .ok (.iload_n 3, 1) := by decide +kernel
theorem dX3_doTry_4 : decode cX3_doTry 4 = .ok (.invokevirtual 85, 3) := by decide +kernel
theorem dX3_doTry_7 : decode cX3_doTry 7 = .ok (.lstore 4, 2) := by decide +kernel
theorem dX3_doTry_9 : decode cX3_doTry 9 = .ok (.aload_n 1, 1) := by decide +kernel
theorem dX3_doTry_10 : decode cX3_doTry 10 = .ok (.getfield 138, 3) := by decide +kernel
theorem dX3_doTry_13 : decode cX3_doTry 13 = .ok (.iload_n 2, 1) := by decide +kernel
theorem dX3_doTry_14 : decode cX3_doTry 14 = .ok (.iaload, 1) := by decide +kernel
theorem dX3_doTry_15 : decode cX3_doTry 15 = .ok (.istore 6, 2) := by decide +kernel
theorem dX3_doTry_17 : decode cX3_doTry 17 = .ok (.aload_n 1, 1) := by decide +kernel
theorem dX3_doTry_18 : decode cX3_doTry 18 = .ok (.getfield 162, 3) := by decide +kernel
theorem dX3_doTry_21 : decode cX3_doTry 21 = .ok (.iload 6, 2) := by decide +kernel
theorem dX3_doTry_23 : decode cX3_doTry 23 = .ok (.iaload, 1) := by decide +kernel
theorem dX3_doTry_24 : decode cX3_doTry 24 = .ok (.bipush 11, 2) := by decide +kernel
theorem dX3_doTry_26 : decode cX3_doTry 26 = .ok (.if_icmp .ne 64, 3) := by decide +kernel
theorem dX3_doTry_29 : decode cX3_doTry 29 = .ok (.lload 4, 2) := by decide +kernel
theorem dX3_doTry_31 : decode cX3_doTry 31 = .ok (.invokestatic 89, 3) := by decide +kernel
theorem dX3_doTry_34 : decode cX3_doTry 34 = .ok (.iconst 4, 1) := by decide +kernel
theorem dX3_doTry_35 : decode cX3_doTry 35 = .ok (.if_icmp .ne 46, 3) := by decide +kernel
theorem dX3_doTry_38 : decode cX3_doTry 38 = .ok (.aload_n 1, 1) := by decide +kernel
theorem dX3_doTry_39 : decode cX3_doTry 39 = .ok (.getfield 159, 3) := by decide +kernel
theorem dX3_doTry_42 : decode cX3_doTry 42 = .ok (.iload_n 2, 1) := by decide +kernel
theorem dX3_doTry_43 : decode cX3_doTry 43 = .ok (.iaload, 1) := by decide +kernel
theorem dX3_doTry_44 : decode cX3_doTry 44 = .ok (.lload 4, 2) := by decide +kernel
theorem dX3_doTry_46 : decode cX3_doTry 46 = .ok (.invokestatic 93, 3) := by decide +kernel
theorem dX3_doTry_49 : decode cX3_doTry 49 = .ok (.ishr, 1) := by decide +kernel
theorem dX3_doTry_50 : decode cX3_doTry 50 = .ok (.iconst 1, 1) := by decide +kernel
theorem dX3_doTry_51 : decode cX3_doTry 51 = .ok (.iand, 1) := by decide +kernel
theorem dX3_doTry_52 : decode cX3_doTry 52 = .ok (.iconst 1, 1) := by decide +kernel
theorem dX3_doTry_53 : decode cX3_doTry 53 = .ok (.if_icmp .ne 28, 3) := by decide +kernel
theorem dX3_doTry_56 : decode cX3_doTry 56 = .ok (.aload_n 0, 1) := by decide +kernel
theorem dX3_doTry_57 : decode cX3_doTry 57 = .ok (.getfield 19, 3) := by decide +kernel
theorem dX3_doTry_60 : decode cX3_doTry 60 = .ok (.getfield 102, 3) := by decide +kernel
theorem dX3_doTry_63 : decode cX3_doTry 63 = .ok (.bipush 7, 2) := by decide +kernel
theorem dX3_doTry_65 : decode cX3_doTry 65 = .ok (.lload 4, 2) := by decide +kernel
theorem dX3_doTry_67 : decode cX3_doTry 67 = .ok (.invokestatic 93, 3) := by decide +kernel
theorem dX3_doTry_70 : decode cX3_doTry 70 = .ok (.iastore, 1) := by decide +kernel
theorem dX3_doTry_71 : decode cX3_doTry 71 = .ok (.aload_n 0, 1) := by decide +kernel
theorem dX3_doTry_72 : decode cX3_doTry 72 = .ok (.aload_n 1, 1) := by decide +kernel
theorem dX3_doTry_73 : decode cX3_doTry 73 = .ok (.iload 6, 2) := by decide +kernel
theorem dX3_doTry_75 : decode cX3_doTry 75 = .ok (.iload_n 3, 1) := by decide +kernel
theorem dX3_doTry_76 : decode cX3_doTry 76 = .ok (.invokevirtual 85, 3) := by decide +kernel
theorem dX3_doTry_79 : decode cX3_doTry 79 = .ok (.lstore 4, 2) := by decide +kernel
theorem dX3_doTry_81 : decode cX3_doTry 81 = .ok (.aload_n 1, 1) := by decide +kernel
theorem dX3_doTry_82 : decode cX3_doTry 82 = .ok (.getfield 138, 3) := by decide +kernel
theorem dX3_doTry_85 : decode cX3_doTry 85 = .ok (.iload 6, 2) := by decide +kernel
theorem dX3_doTry_87 : decode cX3_doTry 87 = .ok (.iaload, 1) := by decide +kernel
theorem dX3_doTry_88 : decode cX3_doTry 88 = .ok (.istore 6, 2) := by decide +kernel
theorem dX3_doTry_90 : decode cX3_doTry 90 = .ok (.aload_n 1, 1) := by decide +kernel
theorem dX3_doTry_91 : decode cX3_doTry 91 = .ok (.getfield 162, 3) := by decide +kernel
theorem dX3_doTry_94 : decode cX3_doTry 94 = .ok (.iload 6, 2) := by decide +kernel
theorem dX3_doTry_96 : decode cX3_doTry 96 = .ok (.iaload, 1) := by decide +kernel
theorem dX3_doTry_97 : decode cX3_doTry 97 = .ok (.bipush 12, 2) := by decide +kernel
theorem dX3_doTry_99 : decode cX3_doTry 99 = .ok (.if_icmp .ne 37, 3) := by decide +kernel
theorem dX3_doTry_102 : decode cX3_doTry 102 = .ok (.lload 4, 2) := by decide +kernel
theorem dX3_doTry_104 : decode cX3_doTry 104 = .ok (.invokestatic 89, 3) := by decide +kernel
theorem dX3_doTry_107 : decode cX3_doTry 107 = .ok (.iconst 5, 1) := by decide +kernel
theorem dX3_doTry_108 : decode cX3_doTry 108 = .ok (.if_icmp .eq 28, 3) := by decide +kernel
theorem dX3_doTry_111 : decode cX3_doTry 111 = .ok (.aload_n 0, 1) := by decide +kernel
theorem dX3_doTry_112 : decode cX3_doTry 112 = .ok (.aload_n 1, 1) := by decide +kernel
theorem dX3_doTry_113 : decode cX3_doTry 113 = .ok (.iload 6, 2) := by decide +kernel
theorem dX3_doTry_115 : decode cX3_doTry 115 = .ok (.iload_n 3, 1) := by decide +kernel
theorem dX3_doTry_116 : decode cX3_doTry 116 = .ok (.invokevirtual 85, 3) := by decide +kernel
theorem dX3_doTry_119 : decode cX3_doTry 119 = .ok (.lstore 7, 2) := by decide +kernel
theorem dX3_doTry_121 : decode cX3_doTry 121 = .ok (.lload 7, 2) := by decide +kernel
theorem dX3_doTry_123 : decode cX3_doTry 123 = .ok (.lconst 0, 1) := by decide +kernel
theorem dX3_doTry_124 : decode cX3_doTry 124 = .ok (.lcmp, 1) := by decide +kernel
theorem dX3_doTry_125 : decode cX3_doTry 125 = .ok (.ifCond .ne 8, 3) := by decide +kernel
theorem dX3_doTry_128 : decode cX3_doTry 128 = .ok (.lload 4, 2) := by decide +kernel
theorem dX3_doTry_130 : decode cX3_doTry 130 = .ok (.goto 5, 3) := by decide +kernel
theorem dX3_doTry_133 : decode cX3_doTry 133 = .ok (.lload 7, 2) := by decide +kernel
theorem dX3_doTry_135 : decode cX3_doTry 135 = .ok (.lreturn, 1) := by decide +kernel
theorem dX3_doTry_136 : decode cX3_doTry 136 = .ok (.lload 4, 2) := by decide +kernel
theorem dX3_doTry_138 : decode cX3_doTry 138 = .ok (.lreturn, 1) := by decide +kernel
theorem dX3_doLoop_0 : decode cX3_doLoop 0 = .ok (.iconst 0, 1) := by decide +kernel
theorem dX3_doLoop_1 : decode cX3_doLoop 1 = .ok (.istore 4, 2) := by decide +kernel
theorem dX3_doLoop_3 : decode cX3_doLoop 3 = .ok (.iload 4, 2) := by decide +kernel
theorem dX3_doLoop_5 : decode cX3_doLoop 5 = .ok (.aload_n 1, 1) := by decide +kernel
theorem dX3_doLoop_6 : decode cX3_doLoop 6 = .ok (.getfield 159, 3) := by decide +kernel
theorem dX3_doLoop_9 : decode cX3_doLoop 9 = .ok (.iload_n 2, 1) := by decide +kernel
theorem dX3_doLoop_10 : decode cX3_doLoop 10 = .ok (.iaload, 1) := by decide +kernel
theorem dX3_doLoop_11 : decode cX3_doLoop 11 = .ok (.if_icmp .ge 89, 3) := by decide +kernel
theorem dX3_doLoop_14 : decode cX3_doLoop 14 = .ok (.aload_n 0, 1) := by decide +kernel
theorem dX3_doLoop_15 : decode cX3_doLoop 15 = .ok (.invokevirtual 153, 3) := by decide +kernel
theorem dX3_doLoop_18 : decode cX3_doLoop 18 = .ok (.ifCond .ne 9, 3) := by decide +kernel
theorem dX3_doLoop_21 : decode cX3_doLoop 21 = .ok (.iconst 5, 1) := by decide +kernel
theorem dX3_doLoop_22 : decode cX3_doLoop 22 = .ok (.iconst 0, 1) := by decide +kernel
theorem dX3_doLoop_23 : decode cX3_doLoop 23 = .ok (.invokestatic 134, 3) := by decide +kernel
theorem dX3_doLoop_26 : decode cX3_doLoop 26 = .ok (.lreturn, 1) := by decide +kernel
theorem dX3_doLoop_27 : decode cX3_doLoop 27 = .ok (.aload_n 0, 1) := by decide +kernel
theorem dX3_doLoop_28 : decode cX3_doLoop 28 = .ok (.aload_n 1, 1) := by decide +kernel
theorem dX3_doLoop_29 : decode cX3_doLoop 29 = .ok (.iload_n 2, 1) := by decide +kernel
theorem dX3_doLoop_30 : decode cX3_doLoop 30 = .ok (.iload_n 3, 1) := by decide +kernel
theorem dX3_doLoop_31 : decode cX3_doLoop 31 = .ok (.invokevirtual 85, 3) := by decide +kernel
theorem dX3_doLoop_34 : decode cX3_doLoop 34 = .ok (.lstore 5, 2) := by decide +kernel
theorem dX3_doLoop_36 : decode cX3_doLoop 36 = .ok (.lload 5, 2) := by decide +kernel
theorem dX3_doLoop_38 : decode cX3_doLoop 38 = .ok (.invokestatic 89, 3) := by decide +kernel
theorem dX3_doLoop_41 : decode cX3_doLoop 41 = .ok (.istore 7, 2) := by decide +kernel
theorem dX3_doLoop_43 : decode cX3_doLoop 43 = .ok (.iload 7, 2) := by decide +kernel
theorem dX3_doLoop_45 : decode cX3_doLoop 45 = .ok (.iconst 1, 1) := by decide +kernel
theorem dX3_doLoop_46 : decode cX3_doLoop 46 = .ok (.if_icmp .eq 9, 3) := by decide +kernel
theorem dX3_doLoop_49 : decode cX3_doLoop 49 = .ok (.iload 7, 2) := by decide +kernel
theorem dX3_doLoop_51 : decode cX3_doLoop 51 = .ok (.iconst 2, 1) := by decide +kernel
theorem dX3_doLoop_52 : decode cX3_doLoop 52 = .ok (.if_icmp .ne 32, 3) := by decide +kernel
theorem dX3_doLoop_55 : decode cX3_doLoop 55 = .ok (.lload 5, 2) := by decide +kernel
theorem dX3_doLoop_57 : decode cX3_doLoop 57 = .ok (.invokestatic 93, 3) := by decide +kernel
theorem dX3_doLoop_60 : decode cX3_doLoop 60 = .ok (.ifCond .le 16, 3) := by decide +kernel
theorem dX3_doLoop_63 : decode cX3_doLoop 63 = .ok (.iload 7, 2) := by decide +kernel
theorem dX3_doLoop_65 : decode cX3_doLoop 65 = .ok (.lload 5, 2) := by decide +kernel
theorem dX3_doLoop_67 : decode cX3_doLoop 67 = .ok (.invokestatic 93, 3) := by decide +kernel
theorem dX3_doLoop_70 : decode cX3_doLoop 70 = .ok (.iconst 1, 1) := by decide +kernel
theorem dX3_doLoop_71 : decode cX3_doLoop 71 = .ok (.isub, 1) := by decide +kernel
theorem dX3_doLoop_72 : decode cX3_doLoop 72 = .ok (.invokestatic 134, 3) := by decide +kernel
theorem dX3_doLoop_75 : decode cX3_doLoop 75 = .ok (.lreturn, 1) := by decide +kernel
theorem dX3_doLoop_76 : decode cX3_doLoop 76 = .ok (.iload 7, 2) := by decide +kernel
theorem dX3_doLoop_78 : decode cX3_doLoop 78 = .ok (.iconst 1, 1) := by decide +kernel
theorem dX3_doLoop_79 : decode cX3_doLoop 79 = .ok (.if_icmp .ne 15, 3) := by decide +kernel
theorem dX3_doLoop_82 : decode cX3_doLoop 82 = .ok (.lconst 0, 1) := by decide +kernel
theorem dX3_doLoop_83 : decode cX3_doLoop 83 = .ok (.lreturn, 1) := by decide +kernel
theorem dX3_doLoop_84 : decode cX3_doLoop 84 = .ok (.lload 5, 2) := by decide +kernel
theorem dX3_doLoop_86 : decode cX3_doLoop 86 = .ok (.lconst 0, 1) := by decide +kernel
theorem dX3_doLoop_87 : decode cX3_doLoop 87 = .ok (.lcmp, 1) := by decide +kernel
theorem dX3_doLoop_88 : decode cX3_doLoop 88 = .ok (.ifCond .eq 6, 3) := by decide +kernel
theorem dX3_doLoop_91 : decode cX3_doLoop 91 = .ok (.lload 5, 2) := by decide +kernel
theorem dX3_doLoop_93 : decode cX3_doLoop 93 = .ok (.lreturn, 1) := by decide +kernel
theorem dX3_doLoop_94 : decode cX3_doLoop 94 = .ok (.iinc 4 1, 3) := by decide +kernel
theorem dX3_doLoop_97 : decode cX3_doLoop 97 = .ok (.goto (-94), 3) := by decide +kernel
theorem dX3_doLoop_100 : decode cX3_doLoop 100 = .ok (.lconst 0, 1) := by decide +kernel
theorem dX3_doLoop_101 : decode cX3_doLoop 101 = .ok (.lreturn, 1) := by decide +kernel
theorem dX3_doScope_0 : decode cX3_doScope 0 = .ok (.aload_n 0, 1) := by decide +kernel
theorem dX3_doScope_1 : decode cX3_doScope 1 = .ok (.getfield 26, 3) := by decide +kernel
theorem dX3_doScope_4 : decode cX3_doScope 4 = .ok (.invokevirtual 191, 3) := by decide +kernel
theorem dX3_doScope_7 : decode cX3_doScope 7 = .ok (.istore 4, 2) := by decide +kernel
theorem dX3_doScope_9 : decode cX3_doScope 9 = .ok (.aload_n 0, 1) := by decide +kernel
theorem dX3_doScope_10 : decode cX3_doScope 10 = .ok (.aload_n 1, 1) := by decide +kernel
theorem dX3_doScope_11 : decode cX3_doScope 11 = .ok (.iload_n 2, 1) := by decide +kernel
theorem dX3_doScope_12 : decode cX3_doScope 12 = .ok (.iload_n 3, 1) := by decide +kernel
theorem dX3_doScope_13 : decode cX3_doScope 13 = .ok (.invokevirtual 85, 3) := by decide +kernel
theorem dX3_doScope_16 : decode cX3_doScope 16 = .ok (.lstore 5, 2) := by decide +kernel
theorem dX3_doScope_18 : decode cX3_doScope 18 = .ok (.lload 5, 2) := by decide +kernel
theorem dX3_doScope_20 : decode cX3_doScope 20 = .ok (.invokestatic 89, 3) := by decide +kernel
theorem dX3_doScope_23 : decode cX3_doScope 23 = .ok (.iconst 4, 1) := by decide +kernel
theorem dX3_doScope_24 : decode cX3_doScope 24 = .ok (.if_icmp .ne 14, 3) := by decide +kernel
theorem dX3_doScope_27 : decode cX3_doScope 27 = .ok (.aload_n 0, 1) := by decide +kernel
theorem dX3_doScope_28 : decode cX3_doScope 28 = .ok (.getfield 26, 3) := by decide +kernel
theorem dX3_doScope_31 : decode cX3_doScope 31 = .ok (.aload_n 0, 1) := by decide +kernel
theorem dX3_doScope_32 : decode cX3_doScope 32 = .ok (.getfield 19, 3) := by decide +kernel
theorem dX3_doScope_35 : decode cX3_doScope 35 = .ok (.invokevirtual 194, 3) := by decide +kernel
theorem dX3_doScope_38 : decode cX3_doScope 38 = .ok (.aload_n 0, 1) := by decide +kernel
theorem dX3_doScope_39 : decode cX3_doScope 39 = .ok (.getfield 26, 3) := by decide +kernel
theorem dX3_doScope_42 : decode cX3_doScope 42 = .ok (.iload 4, 2) := by decide +kernel
theorem dX3_doScope_44 : decode cX3_doScope 44 = .ok (.invokevirtual 198, 3) := by decide +kernel
theorem dX3_doScope_47 : decode cX3_doScope 47 = .ok (.lload 5, 2) := by decide +kernel
theorem dX3_doScope_49 : decode cX3_doScope 49 = .ok (.lreturn, 1) := by decide +kernel
theorem dX3_doMute_0 : decode cX3_doMute 0 = .ok (.aload_n 0, 1) := by decide +kernel
theorem dX3_doMute_1 : decode cX3_doMute 1 = .ok (.aload_n 1, 1) := by decide +kernel
theorem dX3_doMute_2 : decode cX3_doMute 2 = .ok (.iload_n 2, 1) := by decide +kernel
theorem dX3_doMute_3 : decode cX3_doMute 3 = .ok (.iload_n 3, 1) := by decide +kernel
theorem dX3_doMute_4 : decode cX3_doMute 4 = .ok (.invokevirtual 85, 3) := by decide +kernel
theorem dX3_doMute_7 : decode cX3_doMute 7 = .ok (.lstore 4, 2) := by decide +kernel
theorem dX3_doMute_9 : decode cX3_doMute 9 = .ok (.lload 4, 2) := by decide +kernel
theorem dX3_doMute_11 : decode cX3_doMute 11 = .ok (.invokestatic 89, 3) := by decide +kernel
theorem dX3_doMute_14 : decode cX3_doMute 14 = .ok (.iconst 5, 1) := by decide +kernel
theorem dX3_doMute_15 : decode cX3_doMute 15 = .ok (.if_icmp .ne 8, 3) := by decide +kernel
theorem dX3_doMute_18 : decode cX3_doMute 18 = .ok (.lload 4, 2) := by decide +kernel
theorem dX3_doMute_20 : decode cX3_doMute 20 = .ok (.goto 4, 3) := by decide +kernel
theorem dX3_doMute_23 : decode cX3_doMute 23 = .ok (.lconst 0, 1) := by decide +kernel
theorem dX3_doMute_24 : decode cX3_doMute 24 = .ok (.lreturn, 1) := by decide +kernel
theorem dX3_doIf_0 : decode cX3_doIf 0 = .ok (.aload_n 0, 1) := by decide +kernel
theorem dX3_doIf_1 : decode cX3_doIf 1 = .ok (.getfield 19, 3) := by decide +kernel
theorem dX3_doIf_4 : decode cX3_doIf 4 = .ok (.getfield 102, 3) := by decide +kernel
theorem dX3_doIf_7 : decode cX3_doIf 7 = .ok (.aload_n 1, 1) := by decide +kernel
theorem dX3_doIf_8 : decode cX3_doIf 8 = .ok (.getfield 156, 3) := by decide +kernel
theorem dX3_doIf_11 : decode cX3_doIf 11 = .ok (.iload_n 2, 1) := by decide +kernel
theorem dX3_doIf_12 : decode cX3_doIf 12 = .ok (.iaload, 1) := by decide +kernel
theorem dX3_doIf_13 : decode cX3_doIf 13 = .ok (.iaload, 1) := by decide +kernel
theorem dX3_doIf_14 : decode cX3_doIf 14 = .ok (.ifCond .eq 11, 3) := by decide +kernel
theorem dX3_doIf_17 : decode cX3_doIf 17 = .ok (.aload_n 0, 1) := by decide +kernel
theorem dX3_doIf_18 : decode cX3_doIf 18 = .ok (.aload_n 1, 1) := by decide +kernel
theorem dX3_doIf_19 : decode cX3_doIf 19 = .ok (.iload_n 2, 1) := by decide +kernel
theorem dX3_doIf_20 : decode cX3_doIf 20 = .ok (.iload_n 3, 1) := by decide +kernel
theorem dX3_doIf_21 : decode cX3_doIf 21 = .ok (.invokevirtual 85, 3) := by decide +kernel
theorem dX3_doIf_24 : decode cX3_doIf 24 = .ok (.lreturn, 1) := by decide +kernel
theorem dX3_doIf_25 : decode cX3_doIf 25 = .ok (.aload_n 1, 1) := by decide +kernel
theorem dX3_doIf_26 : decode cX3_doIf 26 = .ok (.getfield 138, 3) := by decide +kernel
theorem dX3_doIf_29 : decode cX3_doIf 29 = .ok (.iload_n 2, 1) := by decide +kernel
theorem dX3_doIf_30 : decode cX3_doIf 30 = .ok (.iaload, 1) := by decide +kernel
theorem dX3_doIf_31 : decode cX3_doIf 31 = .ok (.istore 4, 2) := by decide +kernel
theorem dX3_doIf_33 : decode cX3_doIf 33 = .ok (.aload_n 1, 1) := by decide +kernel
theorem dX3_doIf_34 : decode cX3_doIf 34 = .ok (.getfield 162, 3) := by decide +kernel
theorem dX3_doIf_37 : decode cX3_doIf 37 = .ok (.iload 4, 2) := by decide +kernel
theorem dX3_doIf_39 : decode cX3_doIf 39 = .ok (.iaload, 1) := by decide +kernel
theorem dX3_doIf_40 : decode cX3_doIf 40 = .ok (.bipush 22, 2) := by decide +kernel
theorem dX3_doIf_42 : decode cX3_doIf 42 = .ok (.if_icmp .ne 14, 3) := by decide +kernel
theorem dX3_doIf_45 : decode cX3_doIf 45 = .ok (.aload_n 0, 1) := by decide +kernel
theorem dX3_doIf_46 : decode cX3_doIf 46 = .ok (.aload_n 1, 1) := by decide +kernel
theorem dX3_doIf_47 : decode cX3_doIf 47 = .ok (.iload 4, 2) := by decide +kernel
theorem dX3_doIf_49 : decode cX3_doIf 49 = .ok (.iload_n 3, 1) := by decide +kernel
theorem dX3_doIf_50 : decode cX3_doIf 50 = .ok (.invokevirtual 85, 3) := by decide +kernel
theorem dX3_doIf_53 : decode cX3_doIf 53 = .ok (.goto 4, 3) := by decide +kernel
theorem dX3_doIf_56 : decode cX3_doIf 56 = .ok (.lconst 0, 1) := by decide +kernel
theorem dX3_doIf_57 : decode cX3_doIf 57 = .ok (.lreturn, 1) := by decide +kernel
theorem dX3_doCall_0 : decode cX3_doCall 0 = .ok (.aload_n 0, 1) := by decide +kernel
theorem dX3_doCall_1 : decode cX3_doCall 1 = .ok (.getfield 11, 3) := by decide +kernel
theorem dX3_doCall_4 : decode cX3_doCall 4 = .ok (.iload_n 2, 1) := by decide +kernel
theorem dX3_doCall_5 : decode cX3_doCall 5 = .ok (.aaload, 1) := by decide +kernel
theorem dX3_doCall_6 : decode cX3_doCall 6 = .ok (.astore 4, 2) := by decide +kernel
theorem dX3_doCall_8 : decode cX3_doCall 8 = .ok (.aload 4, 2) := by decide +kernel
theorem dX3_doCall_10 : decode cX3_doCall 10 = .ok (.invokevirtual 70, 3) := by decide +kernel
theorem dX3_doCall_13 : decode cX3_doCall 13 = .ok (.ifCond .eq 9, 3) := by decide +kernel
theorem dX3_doCall_16 : decode cX3_doCall 16 = .ok (.iload_n 3, 1) := by decide +kernel
theorem dX3_doCall_17 : decode cX3_doCall 17 = .ok (.bipush 6, 2) := by decide +kernel
theorem dX3_doCall_19 : decode cX3_doCall 19 = .ok (.if_icmp .lt 9, 3) := by decide +kernel
theorem dX3_doCall_22 : decode cX3_doCall 22 = .ok (.bipush 7, 2) := by decide +kernel
theorem dX3_doCall_24 : decode cX3_doCall 24 = .ok (.invokestatic 184, 3) := by decide +kernel
theorem dX3_doCall_27 : decode cX3_doCall 27 = .ok (.lreturn, 1) := by decide +kernel
theorem dX3_doCall_28 : decode cX3_doCall 28 = .ok (.aload_n 0, 1) := by decide +kernel
theorem dX3_doCall_29 : decode cX3_doCall 29 = .ok (.aload 4, 2) := by decide +kernel
theorem dX3_doCall_31 : decode cX3_doCall 31 = .ok (.iconst (-1), 1) := by decide +kernel
theorem dX3_doCall_32 : decode cX3_doCall 32 = .ok (.iload_n 3, 1) := by decide +kernel
theorem dX3_doCall_33 : decode cX3_doCall 33 = .ok (.iconst 1, 1) := by decide +kernel
theorem dX3_doCall_34 : decode cX3_doCall 34 = .ok (.iadd, 1) := by decide +kernel
theorem dX3_doCall_35 : decode cX3_doCall 35 = .ok (.invokevirtual 85, 3) := by decide +kernel
theorem dX3_doCall_38 : decode cX3_doCall 38 = .ok (.lstore 5, 2) := by decide +kernel
theorem dX3_doCall_40 : decode cX3_doCall 40 = .ok (.lload 5, 2) := by decide +kernel
theorem dX3_doCall_42 : decode cX3_doCall 42 = .ok (.invokestatic 89, 3) := by decide +kernel
theorem dX3_doCall_45 : decode cX3_doCall 45 = .ok (.istore 7, 2) := by decide +kernel
theorem dX3_doCall_47 : decode cX3_doCall 47 = .ok (.iload 7, 2) := by decide +kernel
theorem dX3_doCall_49 : decode cX3_doCall 49 = .ok (.iconst 4, 1) := by decide +kernel
theorem dX3_doCall_50 : decode cX3_doCall 50 = .ok (.if_icmp .eq 9, 3) := by decide +kernel
theorem dX3_doCall_53 : decode cX3_doCall 53 = .ok (.iload 7, 2) := by decide +kernel
theorem dX3_doCall_55 : decode cX3_doCall 55 = .ok (.iconst 5, 1) := by decide +kernel
theorem dX3_doCall_56 : decode cX3_doCall 56 = .ok (.if_icmp .ne 6, 3) := by decide +kernel
theorem dX3_doCall_59 : decode cX3_doCall 59 = .ok (.lload 5, 2) := by decide +kernel
theorem dX3_doCall_61 : decode cX3_doCall 61 = .ok (.lreturn, 1) := by decide +kernel
theorem dX3_doCall_62 : decode cX3_doCall 62 = .ok (.aload_n 0, 1) := by decide +kernel
theorem dX3_doCall_63 : decode cX3_doCall 63 = .ok (.getfield 19, 3) := by decide +kernel
theorem dX3_doCall_66 : decode cX3_doCall 66 = .ok (.getfield 102, 3) := by decide +kernel
theorem dX3_doCall_69 : decode cX3_doCall 69 = .ok (.iload_n 1, 1) := by decide +kernel
theorem dX3_doCall_70 : decode cX3_doCall 70 = .ok (.iload 7, 2) := by decide +kernel
theorem dX3_doCall_72 : decode cX3_doCall 72 = .ok (.iconst 3, 1) := by decide +kernel
theorem dX3_doCall_73 : decode cX3_doCall 73 = .ok (.if_icmp .ne 11, 3) := by decide +kernel
theorem dX3_doCall_76 : decode cX3_doCall 76 = .ok (.lload 5, 2) := by decide +kernel
theorem dX3_doCall_78 : decode cX3_doCall 78 = .ok (.invokestatic 93, 3) := by decide +kernel
theorem dX3_doCall_81 : decode cX3_doCall 81 = .ok (.goto 4, 3) := by decide +kernel
theorem dX3_doCall_84 : decode cX3_doCall 84 = .ok (.iconst 0, 1) := by decide +kernel
theorem dX3_doCall_85 : decode cX3_doCall 85 = .ok (.iastore, 1) := by decide +kernel
theorem dX3_doCall_86 : decode cX3_doCall 86 = .ok (.lconst 0, 1) := by decide +kernel
theorem dX3_doCall_87 : decode cX3_doCall 87 = .ok (.lreturn, 1) := by decide +kernel
theorem dX3_doStep_0 : decode cX3_doStep 0 = .ok (.iload_n 1, 1) := by decide +kernel
theorem dX3_doStep_1 : decode cX3_doStep 1 = .ok (.tableswitch 176 0 23 #[111, 117, 124, 131, 138, 145, 152, 158, 165, 176, 176, 176, 176, 176, 176, 176, 176, 176, 176, 176, 176, 176, 176, 171], 111) := by decide +kernel
theorem dX3_doStep_112 : decode cX3_doStep 112 = .ok (.aload_n 0, 1) := by decide +kernel
theorem dX3_doStep_113 : decode cX3_doStep 113 = .ok (.iload_n 2, 1) := by decide +kernel
theorem dX3_doStep_114 : decode cX3_doStep 114 = .ok (.invokevirtual 202, 3) := by decide +kernel
theorem dX3_doStep_117 : decode cX3_doStep 117 = .ok (.lreturn, 1) := by decide +kernel
theorem dX3_doStep_118 : decode cX3_doStep 118 = .ok (.aload_n 0, 1) := by decide +kernel
theorem dX3_doStep_119 : decode cX3_doStep 119 = .ok (.iload_n 2, 1) := by decide +kernel
theorem dX3_doStep_120 : decode cX3_doStep 120 = .ok (.iload_n 3, 1) := by decide +kernel
theorem dX3_doStep_121 : decode cX3_doStep 121 = .ok (.invokevirtual 205, 3) := by decide +kernel
theorem dX3_doStep_124 : decode cX3_doStep 124 = .ok (.lreturn, 1) := by decide +kernel
theorem dX3_doStep_125 : decode cX3_doStep 125 = .ok (.aload_n 0, 1) := by decide +kernel
theorem dX3_doStep_126 : decode cX3_doStep 126 = .ok (.iload_n 2, 1) := by decide +kernel
theorem dX3_doStep_127 : decode cX3_doStep 127 = .ok (.iload_n 3, 1) := by decide +kernel
theorem dX3_doStep_128 : decode cX3_doStep 128 = .ok (.invokevirtual 208, 3) := by decide +kernel
theorem dX3_doStep_131 : decode cX3_doStep 131 = .ok (.lreturn, 1) := by decide +kernel
theorem dX3_doStep_132 : decode cX3_doStep 132 = .ok (.aload_n 0, 1) := by decide +kernel
theorem dX3_doStep_133 : decode cX3_doStep 133 = .ok (.iload_n 2, 1) := by decide +kernel
theorem dX3_doStep_134 : decode cX3_doStep 134 = .ok (.iload_n 3, 1) := by decide +kernel
theorem dX3_doStep_135 : decode cX3_doStep 135 = .ok (.invokevirtual 211, 3) := by decide +kernel
theorem dX3_doStep_138 : decode cX3_doStep 138 = .ok (.lreturn, 1) := by decide +kernel
theorem dX3_doStep_139 : decode cX3_doStep 139 = .ok (.aload_n 0, 1) := by decide +kernel
theorem dX3_doStep_140 : decode cX3_doStep 140 = .ok (.iload_n 2, 1) := by decide +kernel
theorem dX3_doStep_141 : decode cX3_doStep 141 = .ok (.iload_n 3, 1) := by decide +kernel
theorem dX3_doStep_142 : decode cX3_doStep 142 = .ok (.invokevirtual 214, 3) := by decide +kernel
theorem dX3_doStep_145 : decode cX3_doStep 145 = .ok (.lreturn, 1) := by decide +kernel
theorem dX3_doStep_146 : decode cX3_doStep 146 = .ok (.aload_n 0, 1) := by decide +kernel
theorem dX3_doStep_147 : decode cX3_doStep 147 = .ok (.iload_n 2, 1) := by decide +kernel
theorem dX3_doStep_148 : decode cX3_doStep 148 = .ok (.iload_n 3, 1) := by decide +kernel
theorem dX3_doStep_149 : decode cX3_doStep 149 = .ok (.invokevirtual 217, 3) := by decide +kernel
theorem dX3_doStep_152 : decode cX3_doStep 152 = .ok (.lreturn, 1) := by decide +kernel
theorem dX3_doStep_153 : decode cX3_doStep 153 = .ok (.aload_n 0, 1) := by decide +kernel
theorem dX3_doStep_154 : decode cX3_doStep 154 = .ok (.iload_n 2, 1) := by decide +kernel
theorem dX3_doStep_155 : decode cX3_doStep 155 = .ok (.invokevirtual 220, 3) := by decide +kernel
theorem dX3_doStep_158 : decode cX3_doStep 158 = .ok (.lreturn, 1) := by decide +kernel
theorem dX3_doStep_159 : decode cX3_doStep 159 = .ok (.aload_n 0, 1) := by decide +kernel
theorem dX3_doStep_160 : decode cX3_doStep 160 = .ok (.iload_n 2, 1) := by decide +kernel
theorem dX3_doStep_161 : decode cX3_doStep 161 = .ok (.iload_n 3, 1) := by decide +kernel
theorem dX3_doStep_162 : decode cX3_doStep 162 = .ok (.invokevirtual 223, 3) := by decide +kernel
theorem dX3_doStep_165 : decode cX3_doStep 165 = .ok (.lreturn, 1) := by decide +kernel
theorem dX3_doStep_166 : decode cX3_doStep 166 = .ok (.aload_n 0, 1) := by decide +kernel
theorem dX3_doStep_167 : decode cX3_doStep 167 = .ok (.iload_n 2, 1) := by decide +kernel
theorem dX3_doStep_168 : decode cX3_doStep 168 = .ok (.invokevirtual 226, 3) := by decide +kernel
theorem dX3_doStep_171 : decode cX3_doStep 171 = .ok (.lreturn, 1) := by decide +kernel
theorem dX3_doStep_172 : decode cX3_doStep 172 = .ok (.aload_n 0, 1) := by decide +kernel
theorem dX3_doStep_173 : decode cX3_doStep 173 = .ok (.invokevirtual 229, 3) := by decide +kernel
theorem dX3_doStep_176 : decode cX3_doStep 176 = .ok (.lreturn, 1) := by decide +kernel
theorem dX3_doStep_177 : decode cX3_doStep 177 = .ok (.lconst 0, 1) := by decide +kernel
theorem dX3_doStep_178 : decode cX3_doStep 178 = .ok (.lreturn, 1) := by decide +kernel
theorem dX3_doNote_0 : decode cX3_doNote 0 = .ok (.aload_n 0, 1) := by decide +kernel
theorem dX3_doNote_1 : decode cX3_doNote 1 = .ok (.getfield 19, 3) := by decide +kernel
theorem dX3_doNote_4 : decode cX3_doNote 4 = .ok (.aload_n 0, 1) := by decide +kernel
theorem dX3_doNote_5 : decode cX3_doNote 5 = .ok (.getfield 19, 3) := by decide +kernel
theorem dX3_doNote_8 : decode cX3_doNote 8 = .ok (.getfield 102, 3) := by decide +kernel
theorem dX3_doNote_11 : decode cX3_doNote 11 = .ok (.iload_n 1, 1) := by decide +kernel
theorem dX3_doNote_12 : decode cX3_doNote 12 = .ok (.iaload, 1) := by decide +kernel
theorem dX3_doNote_13 : decode cX3_doNote 13 = .ok (.invokevirtual 233, 3) := by decide +kernel
theorem dX3_doNote_16 : decode cX3_doNote 16 = .ok (.lconst 0, 1) := by decide +kernel
theorem dX3_doNote_17 : decode cX3_doNote 17 = .ok (.lreturn, 1) := by decide +kernel
theorem dX3_doAdd_0 : decode cX3_doAdd 0 = .ok (.aload_n 0, 1) := by decide +kernel
theorem dX3_doAdd_1 : decode cX3_doAdd 1 = .ok (.getfield 26, 3) := by decide +kernel
theorem dX3_doAdd_4 : decode cX3_doAdd 4 = .ok (.iconst 1, 1) := by decide +kernel
theorem dX3_doAdd_5 : decode cX3_doAdd 5 = .ok (.iload_n 1, 1) := by decide +kernel
theorem dX3_doAdd_6 : decode cX3_doAdd 6 = .ok (.iload_n 2, 1) := by decide +kernel
theorem dX3_doAdd_7 : decode cX3_doAdd 7 = .ok (.invokevirtual 236, 3) := by decide +kernel
theorem dX3_doAdd_10 : decode cX3_doAdd 10 = .ok (.aload_n 0, 1) := by decide +kernel
theorem dX3_doAdd_11 : decode cX3_doAdd 11 = .ok (.getfield 19, 3) := by decide +kernel
theorem dX3_doAdd_14 : decode cX3_doAdd 14 = .ok (.getfield 102, 3) := by decide +kernel
theorem dX3_doAdd_17 : decode cX3_doAdd 17 = .ok (.iload_n 1, 1) := by decide +kernel
theorem dX3_doAdd_18 : decode cX3_doAdd 18 = .ok (.dup2, 1) := by decide +kernel
theorem dX3_doAdd_19 : decode cX3_doAdd 19 = .ok (.iaload, 1) := by decide +kernel
theorem dX3_doAdd_20 : decode cX3_doAdd 20 = .ok (.iload_n 2, 1) := by decide +kernel
theorem dX3_doAdd_21 : decode cX3_doAdd 21 = .ok (.iadd, 1) := by decide +kernel
theorem dX3_doAdd_22 : decode cX3_doAdd 22 = .ok (.iastore, 1) := by decide +kernel
theorem dX3_doAdd_23 : decode cX3_doAdd 23 = .ok (.lconst 0, 1) := by decide +kernel
theorem dX3_doAdd_24 : decode cX3_doAdd 24 = .ok (.lreturn, 1) := by decide +kernel
theorem dX3_doSet_0 : decode cX3_doSet 0 = .ok (.aload_n 0, 1) := by decide +kernel
theorem dX3_doSet_1 : decode cX3_doSet 1 = .ok (.getfield 26, 3) := by decide +kernel
theorem dX3_doSet_4 : decode cX3_doSet 4 = .ok (.iconst 2, 1) := by decide +kernel
theorem dX3_doSet_5 : decode cX3_doSet 5 = .ok (.iload_n 1, 1) := by decide +kernel
theorem dX3_doSet_6 : decode cX3_doSet 6 = .ok (.aload_n 0, 1) := by decide +kernel
theorem dX3_doSet_7 : decode cX3_doSet 7 = .ok (.getfield 19, 3) := by decide +kernel
theorem dX3_doSet_10 : decode cX3_doSet 10 = .ok (.getfield 102, 3) := by decide +kernel
theorem dX3_doSet_13 : decode cX3_doSet 13 = .ok (.iload_n 1, 1) := by decide +kernel
theorem dX3_doSet_14 : decode cX3_doSet 14 = .ok (.iaload, 1) := by decide +kernel
theorem dX3_doSet_15 : decode cX3_doSet 15 = .ok (.invokevirtual 236, 3) := by decide +kernel
theorem dX3_doSet_18 : decode cX3_doSet 18 = .ok (.aload_n 0, 1) := by decide +kernel
theorem dX3_doSet_19 : decode cX3_doSet 19 = .ok (.getfield 19, 3) := by decide +kernel
theorem dX3_doSet_22 : decode cX3_doSet 22 = .ok (.getfield 102, 3) := by decide +kernel
theorem dX3_doSet_25 : decode cX3_doSet 25 = .ok (.iload_n 1, 1) := by decide +kernel
theorem dX3_doSet_26 : decode cX3_doSet 26 = .ok (.iload_n 2, 1) := by decide +kernel
theorem dX3_doSet_27 : decode cX3_doSet 27 = .ok (.iastore, 1) := by decide +kernel
theorem dX3_doSet_28 : decode cX3_doSet 28 = .ok (.lconst 0, 1) := by decide +kernel
theorem dX3_doSet_29 : decode cX3_doSet 29 = .ok (.lreturn, 1) := by decide +kernel
theorem dX3_doDivide_0 : decode cX3_doDivide 0 = .ok (.aload_n 0, 1) := by decide +kernel
theorem dX3_doDivide_1 : decode cX3_doDivide 1 = .ok (.getfield 19, 3) := by decide +kernel
theorem dX3_doDivide_4 : decode cX3_doDivide 4 = .ok (.getfield 102, 3) := by decide +kernel
theorem dX3_doDivide_7 : decode cX3_doDivide 7 = .ok (.iload_n 2, 1) := by decide +kernel
theorem dX3_doDivide_8 : decode cX3_doDivide 8 = .ok (.iaload, 1) := by decide +kernel
theorem dX3_doDivide_9 : decode cX3_doDivide 9 = .ok (.istore_n 3, 1) := by decide +kernel
theorem dX3_doDivide_10 : decode cX3_doDivide 10 = .ok (.iload_n 3, 1) := by decide +kernel
theorem dX3_doDivide_11 : decode cX3_doDivide 11 = .ok (.ifCond .ne 8, 3) := by decide +kernel
theorem dX3_doDivide_14 : decode cX3_doDivide 14 = .ok (.iconst 1, 1) := by decide +kernel
theorem dX3_doDivide_15 : decode cX3_doDivide 15 = .ok (.invokestatic 184, 3) := by decide +kernel
theorem dX3_doDivide_18 : decode cX3_doDivide 18 = .ok (.lreturn, 1) := by decide +kernel
theorem dX3_doDivide_19 : decode cX3_doDivide 19 = .ok (.aload_n 0, 1) := by decide +kernel
theorem dX3_doDivide_20 : decode cX3_doDivide 20 = .ok (.getfield 26, 3) := by decide +kernel
theorem dX3_doDivide_23 : decode cX3_doDivide 23 = .ok (.iconst 3, 1) := by decide +kernel
theorem dX3_doDivide_24 : decode cX3_doDivide 24 = .ok (.iload_n 1, 1) := by decide +kernel
theorem dX3_doDivide_25 : decode cX3_doDivide 25 = .ok (.aload_n 0, 1) := by decide +kernel
theorem dX3_doDivide_26 : decode cX3_doDivide 26 = .ok (.getfield 19, 3) := by decide +kernel
theorem dX3_doDivide_29 : decode cX3_doDivide 29 = .ok (.getfield 102, 3) := by decide +kernel
theorem dX3_doDivide_32 : decode cX3_doDivide 32 = .ok (.iload_n 1, 1) := by decide +kernel
theorem dX3_doDivide_33 : decode cX3_doDivide 33 = .ok (.iaload, 1) := by decide +kernel
theorem dX3_doDivide_34 : decode cX3_doDivide 34 = .ok (.invokevirtual 236, 3) := by decide +kernel
theorem dX3_doDivide_37 : decode cX3_doDivide 37 = .ok (.aload_n 0, 1) := by decide +kernel
theorem dX3_doDivide_38 : decode cX3_doDivide 38 = .ok (.getfield 19, 3) := by decide +kernel
theorem dX3_doDivide_41 : decode cX3_doDivide 41 = .ok (.getfield 102, 3) := by decide +kernel
theorem dX3_doDivide_44 : decode cX3_doDivide 44 = .ok (.iload_n 1, 1) := by decide +kernel
theorem dX3_doDivide_45 : decode cX3_doDivide 45 = .ok (.aload_n 0, 1) := by decide +kernel
theorem dX3_doDivide_46 : decode cX3_doDivide 46 = .ok (.getfield 19, 3) := by decide +kernel
theorem dX3_doDivide_49 : decode cX3_doDivide 49 = .ok (.getfield 102, 3) := by decide +kernel
theorem dX3_doDivide_52 : decode cX3_doDivide 52 = .ok (.iload_n 1, 1) := by decide +kernel
theorem dX3_doDivide_53 : decode cX3_doDivide 53 = .ok (.iaload, 1) := by decide +kernel
theorem dX3_doDivide_54 : decode cX3_doDivide 54 = .ok (.iload_n 3, 1) := by decide +kernel
theorem dX3_doDivide_55 : decode cX3_doDivide 55 = .ok (.idiv, 1) := by decide +kernel
theorem dX3_doDivide_56 : decode cX3_doDivide 56 = .ok (.iastore, 1) := by decide +kernel
theorem dX3_doDivide_57 : decode cX3_doDivide 57 = .ok (.lconst 0, 1) := by decide +kernel
theorem dX3_doDivide_58 : decode cX3_doDivide 58 = .ok (.lreturn, 1) := by decide +kernel
theorem dX3_doRead_0 : decode cX3_doRead 0 = .ok (.aload_n 0, 1) := by decide +kernel
theorem dX3_doRead_1 : decode cX3_doRead 1 = .ok (.getfield 19, 3) := by decide +kernel
theorem dX3_doRead_4 : decode cX3_doRead 4 = .ok (.getfield 102, 3) := by decide +kernel
theorem dX3_doRead_7 : decode cX3_doRead 7 = .ok (.iload_n 2, 1) := by decide +kernel
theorem dX3_doRead_8 : decode cX3_doRead 8 = .ok (.iaload, 1) := by decide +kernel
theorem dX3_doRead_9 : decode cX3_doRead 9 = .ok (.istore_n 3, 1) := by decide +kernel
theorem dX3_doRead_10 : decode cX3_doRead 10 = .ok (.aload_n 0, 1) := by decide +kernel
theorem dX3_doRead_11 : decode cX3_doRead 11 = .ok (.getfield 19, 3) := by decide +kernel
theorem dX3_doRead_14 : decode cX3_doRead 14 = .ok (.iload_n 3, 1) := by decide +kernel
theorem dX3_doRead_15 : decode cX3_doRead 15 = .ok (.invokevirtual 239, 3) := by decide +kernel
theorem dX3_doRead_18 : decode cX3_doRead 18 = .ok (.ifCond .ne 8, 3) := by decide +kernel
theorem dX3_doRead_21 : decode cX3_doRead 21 = .ok (.iconst 2, 1) := by decide +kernel
theorem dX3_doRead_22 : decode cX3_doRead 22 = .ok (.invokestatic 184, 3) := by decide +kernel
theorem dX3_doRead_25 : decode cX3_doRead 25 = .ok (.lreturn, 1) := by decide +kernel
theorem dX3_doRead_26 : decode cX3_doRead 26 = .ok (.aload_n 0, 1) := by decide +kernel
theorem dX3_doRead_27 : decode cX3_doRead 27 = .ok (.getfield 19, 3) := by decide +kernel
theorem dX3_doRead_30 : decode cX3_doRead 30 = .ok (.getfield 102, 3) := by decide +kernel
theorem dX3_doRead_33 : decode cX3_doRead 33 = .ok (.iload_n 1, 1) := by decide +kernel
theorem dX3_doRead_34 : decode cX3_doRead 34 = .ok (.aload_n 0, 1) := by decide +kernel
theorem dX3_doRead_35 : decode cX3_doRead 35 = .ok (.getfield 19, 3) := by decide +kernel
theorem dX3_doRead_38 : decode cX3_doRead 38 = .ok (.getfield 108, 3) := by decide +kernel
theorem dX3_doRead_41 : decode cX3_doRead 41 = .ok (.iload_n 3, 1) := by decide +kernel
theorem dX3_doRead_42 : decode cX3_doRead 42 = .ok (.iaload, 1) := by decide +kernel
theorem dX3_doRead_43 : decode cX3_doRead 43 = .ok (.iastore, 1) := by decide +kernel
theorem dX3_doRead_44 : decode cX3_doRead 44 = .ok (.lconst 0, 1) := by decide +kernel
theorem dX3_doRead_45 : decode cX3_doRead 45 = .ok (.lreturn, 1) := by decide +kernel
theorem dX3_doWrite_0 : decode cX3_doWrite 0 = .ok (.aload_n 0, 1) := by decide +kernel
theorem dX3_doWrite_1 : decode cX3_doWrite 1 = .ok (.getfield 19, 3) := by decide +kernel
theorem dX3_doWrite_4 : decode cX3_doWrite 4 = .ok (.getfield 102, 3) := by decide +kernel
theorem dX3_doWrite_7 : decode cX3_doWrite 7 = .ok (.iload_n 1, 1) := by decide +kernel
theorem dX3_doWrite_8 : decode cX3_doWrite 8 = .ok (.iaload, 1) := by decide +kernel
theorem dX3_doWrite_9 : decode cX3_doWrite 9 = .ok (.istore_n 3, 1) := by decide +kernel
theorem dX3_doWrite_10 : decode cX3_doWrite 10 = .ok (.aload_n 0, 1) := by decide +kernel
theorem dX3_doWrite_11 : decode cX3_doWrite 11 = .ok (.getfield 19, 3) := by decide +kernel
theorem dX3_doWrite_14 : decode cX3_doWrite 14 = .ok (.iload_n 3, 1) := by decide +kernel
theorem dX3_doWrite_15 : decode cX3_doWrite 15 = .ok (.invokevirtual 239, 3) := by decide +kernel
theorem dX3_doWrite_18 : decode cX3_doWrite 18 = .ok (.ifCond .ne 8, 3) := by decide +kernel
theorem dX3_doWrite_21 : decode cX3_doWrite 21 = .ok (.iconst 2, 1) := by decide +kernel
theorem dX3_doWrite_22 : decode cX3_doWrite 22 = .ok (.invokestatic 184, 3) := by decide +kernel
theorem dX3_doWrite_25 : decode cX3_doWrite 25 = .ok (.lreturn, 1) := by decide +kernel
theorem dX3_doWrite_26 : decode cX3_doWrite 26 = .ok (.aload_n 0, 1) := by decide +kernel
theorem dX3_doWrite_27 : decode cX3_doWrite 27 = .ok (.getfield 26, 3) := by decide +kernel
theorem dX3_doWrite_30 : decode cX3_doWrite 30 = .ok (.iconst 5, 1) := by decide +kernel
theorem dX3_doWrite_31 : decode cX3_doWrite 31 = .ok (.iload_n 3, 1) := by decide +kernel
theorem dX3_doWrite_32 : decode cX3_doWrite 32 = .ok (.aload_n 0, 1) := by decide +kernel
theorem dX3_doWrite_33 : decode cX3_doWrite 33 = .ok (.getfield 19, 3) := by decide +kernel
theorem dX3_doWrite_36 : decode cX3_doWrite 36 = .ok (.getfield 108, 3) := by decide +kernel
theorem dX3_doWrite_39 : decode cX3_doWrite 39 = .ok (.iload_n 3, 1) := by decide +kernel
theorem dX3_doWrite_40 : decode cX3_doWrite 40 = .ok (.iaload, 1) := by decide +kernel
theorem dX3_doWrite_41 : decode cX3_doWrite 41 = .ok (.invokevirtual 236, 3) := by decide +kernel
theorem dX3_doWrite_44 : decode cX3_doWrite 44 = .ok (.aload_n 0, 1) := by decide +kernel
theorem dX3_doWrite_45 : decode cX3_doWrite 45 = .ok (.getfield 19, 3) := by decide +kernel
theorem dX3_doWrite_48 : decode cX3_doWrite 48 = .ok (.getfield 108, 3) := by decide +kernel
theorem dX3_doWrite_51 : decode cX3_doWrite 51 = .ok (.iload_n 3, 1) := by decide +kernel
theorem dX3_doWrite_52 : decode cX3_doWrite 52 = .ok (.aload_n 0, 1) := by decide +kernel
theorem dX3_doWrite_53 : decode cX3_doWrite 53 = .ok (.getfield 19, 3) := by decide +kernel
theorem dX3_doWrite_56 : decode cX3_doWrite 56 = .ok (.getfield 102, 3) := by decide +kernel
theorem dX3_doWrite_59 : decode cX3_doWrite 59 = .ok (.iload_n 2, 1) := by decide +kernel
theorem dX3_doWrite_60 : decode cX3_doWrite 60 = .ok (.iaload, 1) := by decide +kernel
theorem dX3_doWrite_61 : decode cX3_doWrite 61 = .ok (.iastore, 1) := by decide +kernel
theorem dX3_doWrite_62 : decode cX3_doWrite 62 = .ok (.lconst 0, 1) := by decide +kernel
theorem dX3_doWrite_63 : decode cX3_doWrite 63 = .ok (.lreturn, 1) := by decide +kernel
theorem dX3_doMake_0 : decode cX3_doMake 0 = .ok (.aload_n 0, 1) := by decide +kernel
theorem dX3_doMake_1 : decode cX3_doMake 1 = .ok (.getfield 19, 3) := by decide +kernel
theorem dX3_doMake_4 : decode cX3_doMake 4 = .ok (.getfield 102, 3) := by decide +kernel
theorem dX3_doMake_7 : decode cX3_doMake 7 = .ok (.iload_n 1, 1) := by decide +kernel
theorem dX3_doMake_8 : decode cX3_doMake 8 = .ok (.iaload, 1) := by decide +kernel
theorem dX3_doMake_9 : decode cX3_doMake 9 = .ok (.istore_n 2, 1) := by decide +kernel
theorem dX3_doMake_10 : decode cX3_doMake 10 = .ok (.iload_n 2, 1) := by decide +kernel
theorem dX3_doMake_11 : decode cX3_doMake 11 = .ok (.ifCond .ge 8, 3) := by decide +kernel
theorem dX3_doMake_14 : decode cX3_doMake 14 = .ok (.iconst 3, 1) := by decide +kernel
theorem dX3_doMake_15 : decode cX3_doMake 15 = .ok (.invokestatic 184, 3) := by decide +kernel
theorem dX3_doMake_18 : decode cX3_doMake 18 = .ok (.lreturn, 1) := by decide +kernel
theorem dX3_doMake_19 : decode cX3_doMake 19 = .ok (.iload_n 2, 1) := by decide +kernel
theorem dX3_doMake_20 : decode cX3_doMake 20 = .ok (.bipush 16, 2) := by decide +kernel
theorem dX3_doMake_22 : decode cX3_doMake 22 = .ok (.if_icmp .le 8, 3) := by decide +kernel
theorem dX3_doMake_25 : decode cX3_doMake 25 = .ok (.iconst 4, 1) := by decide +kernel
theorem dX3_doMake_26 : decode cX3_doMake 26 = .ok (.invokestatic 184, 3) := by decide +kernel
theorem dX3_doMake_29 : decode cX3_doMake 29 = .ok (.lreturn, 1) := by decide +kernel
theorem dX3_doMake_30 : decode cX3_doMake 30 = .ok (.aload_n 0, 1) := by decide +kernel
theorem dX3_doMake_31 : decode cX3_doMake 31 = .ok (.getfield 26, 3) := by decide +kernel
theorem dX3_doMake_34 : decode cX3_doMake 34 = .ok (.aload_n 0, 1) := by decide +kernel
theorem dX3_doMake_35 : decode cX3_doMake 35 = .ok (.getfield 19, 3) := by decide +kernel
theorem dX3_doMake_38 : decode cX3_doMake 38 = .ok (.invokevirtual 243, 3) := by decide +kernel
theorem dX3_doMake_41 : decode cX3_doMake 41 = .ok (.aload_n 0, 1) := by decide +kernel
theorem dX3_doMake_42 : decode cX3_doMake 42 = .ok (.getfield 19, 3) := by decide +kernel
theorem dX3_doMake_45 : decode cX3_doMake 45 = .ok (.iload_n 2, 1) := by decide +kernel
theorem dX3_doMake_46 : decode cX3_doMake 46 = .ok (.invokevirtual 246, 3) := by decide +kernel
theorem dX3_doMake_49 : decode cX3_doMake 49 = .ok (.lconst 0, 1) := by decide +kernel
theorem dX3_doMake_50 : decode cX3_doMake 50 = .ok (.lreturn, 1) := by decide +kernel
theorem dX3_doHold_0 : decode cX3_doHold 0 = .ok (.aload_n 0, 1) := by decide +kernel
theorem dX3_doHold_1 : decode cX3_doHold 1 = .ok (.getfield 26, 3) := by decide +kernel
theorem dX3_doHold_4 : decode cX3_doHold 4 = .ok (.iload_n 1, 1) := by decide +kernel
theorem dX3_doHold_5 : decode cX3_doHold 5 = .ok (.aload_n 0, 1) := by decide +kernel
theorem dX3_doHold_6 : decode cX3_doHold 6 = .ok (.getfield 19, 3) := by decide +kernel
theorem dX3_doHold_9 : decode cX3_doHold 9 = .ok (.invokevirtual 249, 3) := by decide +kernel
theorem dX3_doHold_12 : decode cX3_doHold 12 = .ok (.aload_n 0, 1) := by decide +kernel
theorem dX3_doHold_13 : decode cX3_doHold 13 = .ok (.getfield 19, 3) := by decide +kernel
theorem dX3_doHold_16 : decode cX3_doHold 16 = .ok (.getfield 124, 3) := by decide +kernel
theorem dX3_doHold_19 : decode cX3_doHold 19 = .ok (.iload_n 1, 1) := by decide +kernel
theorem dX3_doHold_20 : decode cX3_doHold 20 = .ok (.iload_n 2, 1) := by decide +kernel
theorem dX3_doHold_21 : decode cX3_doHold 21 = .ok (.iastore, 1) := by decide +kernel
theorem dX3_doHold_22 : decode cX3_doHold 22 = .ok (.aload_n 0, 1) := by decide +kernel
theorem dX3_doHold_23 : decode cX3_doHold 23 = .ok (.getfield 19, 3) := by decide +kernel
theorem dX3_doHold_26 : decode cX3_doHold 26 = .ok (.getfield 253, 3) := by decide +kernel
theorem dX3_doHold_29 : decode cX3_doHold 29 = .ok (.iload_n 1, 1) := by decide +kernel
theorem dX3_doHold_30 : decode cX3_doHold 30 = .ok (.iconst 0, 1) := by decide +kernel
theorem dX3_doHold_31 : decode cX3_doHold 31 = .ok (.iastore, 1) := by decide +kernel
theorem dX3_doHold_32 : decode cX3_doHold 32 = .ok (.lconst 0, 1) := by decide +kernel
theorem dX3_doHold_33 : decode cX3_doHold 33 = .ok (.lreturn, 1) := by decide +kernel
theorem dX3_doUse_0 : decode cX3_doUse 0 = .ok (.aload_n 0, 1) := by decide +kernel
theorem dX3_doUse_1 : decode cX3_doUse 1 = .ok (.getfield 19, 3) := by decide +kernel
theorem dX3_doUse_4 : decode cX3_doUse 4 = .ok (.getfield 124, 3) := by decide +kernel
theorem dX3_doUse_7 : decode cX3_doUse 7 = .ok (.iload_n 1, 1) := by decide +kernel
theorem dX3_doUse_8 : decode cX3_doUse 8 = .ok (.iaload, 1) := by decide +kernel
theorem dX3_doUse_9 : decode cX3_doUse 9 = .ok (.ifCond .ne 8, 3) := by decide +kernel
theorem dX3_doUse_12 : decode cX3_doUse 12 = .ok (.iconst 5, 1) := by decide +kernel
theorem dX3_doUse_13 : decode cX3_doUse 13 = .ok (.invokestatic 184, 3) := by decide +kernel
theorem dX3_doUse_16 : decode cX3_doUse 16 = .ok (.lreturn, 1) := by decide +kernel
theorem dX3_doUse_17 : decode cX3_doUse 17 = .ok (.aload_n 0, 1) := by decide +kernel
theorem dX3_doUse_18 : decode cX3_doUse 18 = .ok (.getfield 19, 3) := by decide +kernel
theorem dX3_doUse_21 : decode cX3_doUse 21 = .ok (.getfield 124, 3) := by decide +kernel
theorem dX3_doUse_24 : decode cX3_doUse 24 = .ok (.iload_n 1, 1) := by decide +kernel
theorem dX3_doUse_25 : decode cX3_doUse 25 = .ok (.iaload, 1) := by decide +kernel
theorem dX3_doUse_26 : decode cX3_doUse 26 = .ok (.iconst 2, 1) := by decide +kernel
theorem dX3_doUse_27 : decode cX3_doUse 27 = .ok (.if_icmp .ne 9, 3) := by decide +kernel
theorem dX3_doUse_30 : decode cX3_doUse 30 = .ok (.bipush 6, 2) := by decide +kernel
theorem dX3_doUse_32 : decode cX3_doUse 32 = .ok (.invokestatic 184, 3) := by decide +kernel
theorem dX3_doUse_35 : decode cX3_doUse 35 = .ok (.lreturn, 1) := by decide +kernel
theorem dX3_doUse_36 : decode cX3_doUse 36 = .ok (.aload_n 0, 1) := by decide +kernel
theorem dX3_doUse_37 : decode cX3_doUse 37 = .ok (.getfield 19, 3) := by decide +kernel
theorem dX3_doUse_40 : decode cX3_doUse 40 = .ok (.getfield 253, 3) := by decide +kernel
theorem dX3_doUse_43 : decode cX3_doUse 43 = .ok (.iload_n 1, 1) := by decide +kernel
theorem dX3_doUse_44 : decode cX3_doUse 44 = .ok (.dup2, 1) := by decide +kernel
theorem dX3_doUse_45 : decode cX3_doUse 45 = .ok (.iaload, 1) := by decide +kernel
theorem dX3_doUse_46 : decode cX3_doUse 46 = .ok (.iconst 1, 1) := by decide +kernel
theorem dX3_doUse_47 : decode cX3_doUse 47 = .ok (.iadd, 1) := by decide +kernel
theorem dX3_doUse_48 : decode cX3_doUse 48 = .ok (.iastore, 1) := by decide +kernel
theorem dX3_doUse_49 : decode cX3_doUse 49 = .ok (.aload_n 0, 1) := by decide +kernel
theorem dX3_doUse_50 : decode cX3_doUse 50 = .ok (.getfield 19, 3) := by decide +kernel
theorem dX3_doUse_53 : decode cX3_doUse 53 = .ok (.aload_n 0, 1) := by decide +kernel
theorem dX3_doUse_54 : decode cX3_doUse 54 = .ok (.getfield 19, 3) := by decide +kernel
theorem dX3_doUse_57 : decode cX3_doUse 57 = .ok (.getfield 253, 3) := by decide +kernel
theorem dX3_doUse_60 : decode cX3_doUse 60 = .ok (.iload_n 1, 1) := by decide +kernel
theorem dX3_doUse_61 : decode cX3_doUse 61 = .ok (.iaload, 1) := by decide +kernel
theorem dX3_doUse_62 : decode cX3_doUse 62 = .ok (.invokevirtual 233, 3) := by decide +kernel
theorem dX3_doUse_65 : decode cX3_doUse 65 = .ok (.lconst 0, 1) := by decide +kernel
theorem dX3_doUse_66 : decode cX3_doUse 66 = .ok (.lreturn, 1) := by decide +kernel
theorem dX3_doKeep_0 : decode cX3_doKeep 0 = .ok (.aload_n 0, 1) := by decide +kernel
theorem dX3_doKeep_1 : decode cX3_doKeep 1 = .ok (.getfield 26, 3) := by decide +kernel
theorem dX3_doKeep_4 : decode cX3_doKeep 4 = .ok (.invokevirtual 256, 3) := by decide +kernel
theorem dX3_doKeep_7 : decode cX3_doKeep 7 = .ok (.lconst 0, 1) := by decide +kernel
theorem dX3_doKeep_8 : decode cX3_doKeep 8 = .ok (.lreturn, 1) := by decide +kernel
theorem dX4_init_0 : decode cX4_init 0 = .ok (.aload_n 0, 1) := by decide +kernel
theorem dX4_init_1 : decode cX4_init 1 = .ok (.invokespecial 1, 3) := by decide +kernel
theorem dX4_init_4 : decode cX4_init 4 = .ok (.aload_n 0, 1) := by decide +kernel
theorem dX4_init_5 : decode cX4_init 5 = .ok (.sipush 480, 3) := by decide +kernel
theorem dX4_init_8 : decode cX4_init 8 = .ok (.newarray .int, 2) := by decide +kernel
theorem dX4_init_10 : decode cX4_init 10 = .ok (.putfield 7, 3) := by decide +kernel
theorem dX4_init_13 : decode cX4_init 13 = .ok (.aload_n 0, 1) := by decide +kernel
theorem dX4_init_14 : decode cX4_init 14 = .ok (.sipush 480, 3) := by decide +kernel
theorem dX4_init_17 : decode cX4_init 17 = .ok (.newarray .int, 2) := by decide +kernel
theorem dX4_init_19 : decode cX4_init 19 = .ok (.putfield 13, 3) := by decide +kernel
theorem dX4_init_22 : decode cX4_init 22 = .ok (.aload_n 0, 1) := by decide +kernel
theorem dX4_init_23 : decode cX4_init 23 = .ok (.sipush 480, 3) := by decide +kernel
theorem dX4_init_26 : decode cX4_init 26 = .ok (.newarray .int, 2) := by decide +kernel
theorem dX4_init_28 : decode cX4_init 28 = .ok (.putfield 16, 3) := by decide +kernel
theorem dX4_init_31 : decode cX4_init 31 = .ok (.aload_n 0, 1) := by decide +kernel
theorem dX4_init_32 : decode cX4_init 32 = .ok (.bipush 8, 2) := by decide +kernel
theorem dX4_init_34 : decode cX4_init 34 = .ok (.newarray .int, 2) := by decide +kernel
theorem dX4_init_36 : decode cX4_init 36 = .ok (.putfield 19, 3) := by decide +kernel
theorem dX4_init_39 : decode cX4_init 39 = .ok (.aload_n 0, 1) := by decide +kernel
theorem dX4_init_40 : decode cX4_init 40 = .ok (.bipush 8, 2) := by decide +kernel
theorem dX4_init_42 : decode cX4_init 42 = .ok (.newarray .int, 2) := by decide +kernel
theorem dX4_init_44 : decode cX4_init 44 = .ok (.putfield 22, 3) := by decide +kernel
theorem dX4_init_47 : decode cX4_init 47 = .ok (.aload_n 0, 1) := by decide +kernel
theorem dX4_init_48 : decode cX4_init 48 = .ok (.bipush 16, 2) := by decide +kernel
theorem dX4_init_50 : decode cX4_init 50 = .ok (.newarray .int, 2) := by decide +kernel
theorem dX4_init_52 : decode cX4_init 52 = .ok (.putfield 25, 3) := by decide +kernel
theorem dX4_init_55 : decode cX4_init 55 = .ok (.aload_n 0, 1) := by decide +kernel
theorem dX4_init_56 : decode cX4_init 56 = .ok (.bipush 8, 2) := by decide +kernel
theorem dX4_init_58 : decode cX4_init 58 = .ok (.putfield 28, 3) := by decide +kernel
theorem dX4_init_61 : decode cX4_init 61 = .ok (.aload_n 0, 1) := by decide +kernel
theorem dX4_init_62 : decode cX4_init 62 = .ok (.iconst 4, 1) := by decide +kernel
theorem dX4_init_63 : decode cX4_init 63 = .ok (.newarray .int, 2) := by decide +kernel
theorem dX4_init_65 : decode cX4_init 65 = .ok (.putfield 32, 3) := by decide +kernel
theorem dX4_init_68 : decode cX4_init 68 = .ok (.aload_n 0, 1) := by decide +kernel
theorem dX4_init_69 : decode cX4_init 69 = .ok (.bipush 80, 2) := by decide +kernel
theorem dX4_init_71 : decode cX4_init 71 = .ok (.newarray .int, 2) := by decide +kernel
theorem dX4_init_73 : decode cX4_init 73 = .ok (.putfield 35, 3) := by decide +kernel
theorem dX4_init_76 : decode cX4_init 76 = .ok (.aload_n 0, 1) := by decide +kernel
theorem dX4_init_77 : decode cX4_init 77 = .ok (.bipush 80, 2) := by decide +kernel
theorem dX4_init_79 : decode cX4_init 79 = .ok (.newarray .int, 2) := by decide +kernel
theorem dX4_init_81 : decode cX4_init 81 = .ok (.putfield 38, 3) := by decide +kernel
theorem dX4_init_84 : decode cX4_init 84 = .ok (.aload_n 0, 1) := by decide +kernel
theorem dX4_init_85 : decode cX4_init 85 = .ok (.iconst 4, 1) := by decide +kernel
theorem dX4_init_86 : decode cX4_init 86 = .ok (.newarray .int, 2) := by decide +kernel
theorem dX4_init_88 : decode cX4_init 88 = .ok (.putfield 41, 3) := by decide +kernel
theorem dX4_init_91 : decode cX4_init 91 = .ok (.aload_n 0, 1) := by decide +kernel
theorem dX4_init_92 : decode cX4_init 92 = .ok (.iconst 4, 1) := by decide +kernel
theorem dX4_init_93 : decode cX4_init 93 = .ok (.newarray .int, 2) := by decide +kernel
theorem dX4_init_95 : decode cX4_init 95 = .ok (.putfield 44, 3) := by decide +kernel
theorem dX4_init_98 : decode cX4_init 98 = .ok (.aload_n 0, 1) := by decide +kernel
theorem dX4_init_99 : decode cX4_init 99 = .ok (.iconst 1, 1) := by decide +kernel
theorem dX4_init_100 : decode cX4_init 100 = .ok (.putfield 47, 3) := by decide +kernel
theorem dX4_init_103 : decode cX4_init 103 = .ok (.aload_n 0, 1) := by decide +kernel
theorem dX4_init_104 : decode cX4_init 104 = .ok (.bipush 100, 2) := by decide +kernel
theorem dX4_init_106 : decode cX4_init 106 = .ok (.newarray .int, 2) := by decide +kernel
theorem dX4_init_108 : decode cX4_init 108 = .ok (.putfield 50, 3) := by decide +kernel
theorem dX4_init_111 : decode cX4_init 111 = .ok (.aload_n 0, 1) := by decide +kernel
theorem dX4_init_112 : decode cX4_init 112 = .ok (.bipush 70, 2) := by decide +kernel
theorem dX4_init_114 : decode cX4_init 114 = .ok (.newarray .int, 2) := by decide +kernel
theorem dX4_init_116 : decode cX4_init 116 = .ok (.putfield 53, 3) := by decide +kernel
theorem dX4_init_119 : decode cX4_init 119 = .ok (.aload_n 0, 1) := by decide +kernel
theorem dX4_init_120 : decode cX4_init 120 = .ok (.bipush 70, 2) := by decide +kernel
theorem dX4_init_122 : decode cX4_init 122 = .ok (.newarray .int, 2) := by decide +kernel
theorem dX4_init_124 : decode cX4_init 124 = .ok (.putfield 56, 3) := by decide +kernel
theorem dX4_init_127 : decode cX4_init 127 = .ok (.aload_n 0, 1) := by decide +kernel
theorem dX4_init_128 : decode cX4_init 128 = .ok (.bipush 70, 2) := by decide +kernel
theorem dX4_init_130 : decode cX4_init 130 = .ok (.newarray .int, 2) := by decide +kernel
theorem dX4_init_132 : decode cX4_init 132 = .ok (.putfield 59, 3) := by decide +kernel
theorem dX4_init_135 : decode cX4_init 135 = .ok (.aload_n 0, 1) := by decide +kernel
theorem dX4_init_136 : decode cX4_init 136 = .ok (.sipush 1120, 3) := by decide +kernel
theorem dX4_init_139 : decode cX4_init 139 = .ok (.newarray .int, 2) := by decide +kernel
theorem dX4_init_141 : decode cX4_init 141 = .ok (.putfield 62, 3) := by decide +kernel
theorem dX4_init_144 : decode cX4_init 144 = .ok (.aload_n 0, 1) := by decide +kernel
theorem dX4_init_145 : decode cX4_init 145 = .ok (.bipush 70, 2) := by decide +kernel
theorem dX4_init_147 : decode cX4_init 147 = .ok (.newarray .int, 2) := by decide +kernel
theorem dX4_init_149 : decode cX4_init 149 = .ok (.putfield 65, 3) := by decide +kernel
theorem dX4_init_152 : decode cX4_init 152 = .ok (.aload_n 0, 1) := by decide +kernel
theorem dX4_init_153 : decode cX4_init 153 = .ok (.bipush 80, 2) := by decide +kernel
theorem dX4_init_155 : decode cX4_init 155 = .ok (.newarray .int, 2) := by decide +kernel
theorem dX4_init_157 : decode cX4_init 157 = .ok (.putfield 68, 3) := by decide +kernel
theorem dX4_init_160 : decode cX4_init 160 = .ok (.aload_n 0, 1) := by decide +kernel
theorem dX4_init_161 : decode cX4_init 161 = .ok (.bipush 80, 2) := by decide +kernel
theorem dX4_init_163 : decode cX4_init 163 = .ok (.newarray .int, 2) := by decide +kernel
theorem dX4_init_165 : decode cX4_init 165 = .ok (.putfield 71, 3) := by decide +kernel
theorem dX4_init_168 : decode cX4_init 168 = .ok (.aload_n 0, 1) := by decide +kernel
theorem dX4_init_169 : decode cX4_init 169 = .ok (.bipush 80, 2) := by decide +kernel
theorem dX4_init_171 : decode cX4_init 171 = .ok (.newarray .int, 2) := by decide +kernel
theorem dX4_init_173 : decode cX4_init 173 = .ok (.putfield 74, 3) := by decide +kernel
theorem dX4_init_176 : decode cX4_init 176 = .ok (.aload_n 0, 1) := by decide +kernel
theorem dX4_init_177 : decode cX4_init 177 = .ok (.bipush 80, 2) := by decide +kernel
theorem dX4_init_179 : decode cX4_init 179 = .ok (.newarray .int, 2) := by decide +kernel
theorem dX4_init_181 : decode cX4_init 181 = .ok (.putfield 77, 3) := by decide +kernel
theorem dX4_init_184 : decode cX4_init 184 = .ok (.aload_n 0, 1) := by decide +kernel
theorem dX4_init_185 : decode cX4_init 185 = .ok (.bipush 80, 2) := by decide +kernel
theorem dX4_init_187 : decode cX4_init 187 = .ok (.newarray .int, 2) := by decide +kernel
theorem dX4_init_189 : decode cX4_init 189 = .ok (.putfield 80, 3) := by decide +kernel
theorem dX4_init_192 : decode cX4_init 192 = .ok (.aload_n 0, 1) := by decide +kernel
theorem dX4_init_193 : decode cX4_init 193 = .ok (.bipush 80, 2) := by decide +kernel
theorem dX4_init_195 : decode cX4_init 195 = .ok (.newarray .int, 2) := by decide +kernel
theorem dX4_init_197 : decode cX4_init 197 = .ok (.putfield 83, 3) := by decide +kernel
theorem dX4_init_200 : decode cX4_init 200 = .ok (.aload_n 0, 1) := by decide +kernel
theorem dX4_init_201 : decode cX4_init 201 = .ok (.bipush 80, 2) := by decide +kernel
theorem dX4_init_203 : decode cX4_init 203 = .ok (.newarray .int, 2) := by decide +kernel
theorem dX4_init_205 : decode cX4_init 205 = .ok (.putfield 86, 3) := by decide +kernel
theorem dX4_init_208 : decode cX4_init 208 = .ok (.aload_n 0, 1) := by decide +kernel
theorem dX4_init_209 : decode cX4_init 209 = .ok (.bipush 80, 2) := by decide +kernel
theorem dX4_init_211 : decode cX4_init 211 = .ok (.newarray .int, 2) := by decide +kernel
theorem dX4_init_213 : decode cX4_init 213 = .ok (.putfield 89, 3) := by decide +kernel
theorem dX4_init_216 : decode cX4_init 216 = .ok (.return_, 1) := by decide +kernel
theorem dX4_thrown_0 : decode cX4_thrown 0 = .ok (.aload_n 0, 1) := by decide +kernel
theorem dX4_thrown_1 : decode cX4_thrown 1 = .ok (.getfield 92, 3) := by decide +kernel
theorem dX4_thrown_4 : decode cX4_thrown 4 = .ok (.ireturn, 1) := by decide +kernel
theorem dX4_no_0 : decode cX4_no 0 = .ok (.aload_n 0, 1) := by decide +kernel
theorem dX4_no_1 : decode cX4_no 1 = .ok (.iload_n 1, 1) := by decide +kernel
theorem dX4_no_2 : decode cX4_no 2 = .ok (.putfield 92, 3) := by decide +kernel
theorem dX4_no_5 : decode cX4_no 5 = .ok (.iconst 0, 1) := by decide +kernel
theorem dX4_no_6 : decode cX4_no 6 = .ok (.ireturn, 1) := by decide +kernel
theorem dX4_opens_0 : decode cX4_opens 0 = .ok (.iload_n 0, 1) := by decide +kernel
theorem dX4_opens_1 : decode cX4_opens 1 = .ok (.bipush 10, 2) := by decide +kernel
theorem dX4_opens_3 : decode cX4_opens 3 = .ok (.if_icmp .eq 21, 3) := by decide +kernel
theorem dX4_opens_6 : decode cX4_opens 6 = .ok (.iload_n 0, 1) := by decide +kernel
theorem dX4_opens_7 : decode cX4_opens 7 = .ok (.bipush 13, 2) := by decide +kernel
theorem dX4_opens_9 : decode cX4_opens 9 = .ok (.if_icmp .lt 9, 3) := by decide +kernel
theorem dX4_opens_12 : decode cX4_opens 12 = .ok (.iload_n 0, 1) := by decide +kernel
theorem dX4_opens_13 : decode cX4_opens 13 = .ok (.bipush 15, 2) := by decide +kernel
theorem dX4_opens_15 : decode cX4_opens 15 = .ok (.if_icmp .le 9, 3) := by decide +kernel
theorem dX4_opens_18 : decode cX4_opens 18 = .ok (.iload_n 0, 1) := by decide +kernel
theorem dX4_opens_19 : decode cX4_opens 19 = .ok (.bipush 21, 2) := by decide +kernel
theorem dX4_opens_21 : decode cX4_opens 21 = .ok (.if_icmp .ne 7, 3) := by decide +kernel
theorem dX4_opens_24 : decode cX4_opens 24 = .ok (.iconst 1, 1) := by decide +kernel
theorem dX4_opens_25 : decode cX4_opens 25 = .ok (.goto 4, 3) := by decide +kernel
theorem dX4_opens_28 : decode cX4_opens 28 = .ok (.iconst 0, 1) := by decide +kernel
theorem dX4_opens_29 : decode cX4_opens 29 = .ok (.ireturn, 1) := by decide +kernel
theorem dX4_look_0 : decode cX4_look 0 = .ok (.aload_n 0, 1) := by decide +kernel
theorem dX4_look_1 : decode cX4_look 1 = .ok (.iconst 0, 1) := by decide +kernel
theorem dX4_look_2 : decode cX4_look 2 = .ok (.putfield 95, 3) := by decide +kernel
theorem dX4_look_5 : decode cX4_look 5 = .ok (.bipush 60, 2) := by decide +kernel
theorem dX4_look_7 : decode cX4_look 7 = .ok (.iload_n 1, 1) := by decide +kernel
theorem dX4_look_8 : decode cX4_look 8 = .ok (.imul, 1) := by decide +kernel
theorem dX4_look_9 : decode cX4_look 9 = .ok (.istore_n 2, 1) := by decide +kernel
theorem dX4_look_10 : decode cX4_look 10 = .ok (.iload_n 2, 1) := by decide +kernel
theorem dX4_look_11 : decode cX4_look 11 = .ok (.bipush 60, 2) := by decide +kernel
theorem dX4_look_13 : decode cX4_look 13 = .ok (.iload_n 1, 1) := by decide +kernel
theorem dX4_look_14 : decode cX4_look 14 = .ok (.imul, 1) := by decide +kernel
theorem dX4_look_15 : decode cX4_look 15 = .ok (.aload_n 0, 1) := by decide +kernel
theorem dX4_look_16 : decode cX4_look 16 = .ok (.getfield 19, 3) := by decide +kernel
theorem dX4_look_19 : decode cX4_look 19 = .ok (.iload_n 1, 1) := by decide +kernel
theorem dX4_look_20 : decode cX4_look 20 = .ok (.iaload, 1) := by decide +kernel
theorem dX4_look_21 : decode cX4_look 21 = .ok (.iadd, 1) := by decide +kernel
theorem dX4_look_22 : decode cX4_look 22 = .ok (.if_icmp .ge 115, 3) := by decide +kernel
theorem dX4_look_25 : decode cX4_look 25 = .ok (.aload_n 0, 1) := by decide +kernel
theorem dX4_look_26 : decode cX4_look 26 = .ok (.getfield 7, 3) := by decide +kernel
theorem dX4_look_29 : decode cX4_look 29 = .ok (.iload_n 2, 1) := by decide +kernel
theorem dX4_look_30 : decode cX4_look 30 = .ok (.iaload, 1) := by decide +kernel
theorem dX4_look_31 : decode cX4_look 31 = .ok (.istore_n 3, 1) := by decide +kernel
theorem dX4_look_32 : decode cX4_look 32 = .ok (.iload_n 3, 1) := by decide +kernel
theorem dX4_look_33 : decode cX4_look 33 = .ok (.invokestatic 98, 3) := by decide +kernel
theorem dX4_look_36 : decode cX4_look 36 = .ok (.ifCond .eq 36, 3) := by decide +kernel
theorem dX4_look_39 : decode cX4_look 39 = .ok (.aload_n 0, 1) := by decide +kernel
theorem dX4_look_40 : decode cX4_look 40 = .ok (.getfield 68, 3) := by decide +kernel
theorem dX4_look_43 : decode cX4_look 43 = .ok (.aload_n 0, 1) := by decide +kernel
theorem dX4_look_44 : decode cX4_look 44 = .ok (.getfield 95, 3) := by decide +kernel
theorem dX4_look_47 : decode cX4_look 47 = .ok (.iload_n 3, 1) := by decide +kernel
theorem dX4_look_48 : decode cX4_look 48 = .ok (.iastore, 1) := by decide +kernel
theorem dX4_look_49 : decode cX4_look 49 = .ok (.aload_n 0, 1) := by decide +kernel
theorem dX4_look_50 : decode cX4_look 50 = .ok (.getfield 77, 3) := by decide +kernel
theorem dX4_look_53 : decode cX4_look 53 = .ok (.aload_n 0, 1) := by decide +kernel
theorem dX4_look_54 : decode cX4_look 54 = .ok (.getfield 95, 3) := by decide +kernel
theorem dX4_look_57 : decode cX4_look 57 = .ok (.iconst 0, 1) := by decide +kernel
theorem dX4_look_58 : decode cX4_look 58 = .ok (.iastore, 1) := by decide +kernel
theorem dX4_look_59 : decode cX4_look 59 = .ok (.aload_n 0, 1) := by decide +kernel
theorem dX4_look_60 : decode cX4_look 60 = .ok (.dup, 1) := by decide +kernel
theorem dX4_look_61 : decode cX4_look 61 = .ok (.getfield 95, 3) := by decide +kernel
theorem dX4_look_64 : decode cX4_look 64 = .ok (.iconst 1, 1) := by decide +kernel
theorem dX4_look_65 : decode cX4_look 65 = .ok (.iadd, 1) := by decide +kernel
theorem dX4_look_66 : decode cX4_look 66 = .ok (.putfield 95, 3) := by decide +kernel
theorem dX4_look_69 : decode cX4_look 69 = .ok (.goto 62, 3) := by decide +kernel
theorem dX4_look_72 : decode cX4_look 72 = .ok (.iload_n 3, 1) := by decide +kernel
theorem dX4_look_73 : decode cX4_look 73 = .ok (.bipush 16, 2) := by decide +kernel
theorem dX4_look_75 : decode cX4_look 75 = .ok (.if_icmp .ne 16, 3) := by decide +kernel
theorem dX4_look_78 : decode cX4_look 78 = .ok (.aload_n 0, 1) := by decide +kernel
theorem dX4_look_79 : decode cX4_look 79 = .ok (.dup, 1) := by decide +kernel
theorem dX4_look_80 : decode cX4_look 80 = .ok (.getfield 95, 3) := by decide +kernel
theorem dX4_look_83 : decode cX4_look 83 = .ok (.iconst 1, 1) := by decide +kernel
theorem dX4_look_84 : decode cX4_look 84 = .ok (.isub, 1) := by decide +kernel
theorem dX4_look_85 : decode cX4_look 85 = .ok (.putfield 95, 3) := by decide +kernel
theorem dX4_look_88 : decode cX4_look 88 = .ok (.goto 43, 3) := by decide +kernel
theorem dX4_look_91 : decode cX4_look 91 = .ok (.iload_n 3, 1) := by decide +kernel
theorem dX4_look_92 : decode cX4_look 92 = .ok (.bipush 11, 2) := by decide +kernel
theorem dX4_look_94 : decode cX4_look 94 = .ok (.if_icmp .eq 15, 3) := by decide +kernel
theorem dX4_look_97 : decode cX4_look 97 = .ok (.iload_n 3, 1) := by decide +kernel
theorem dX4_look_98 : decode cX4_look 98 = .ok (.bipush 12, 2) := by decide +kernel
theorem dX4_look_100 : decode cX4_look 100 = .ok (.if_icmp .eq 9, 3) := by decide +kernel
theorem dX4_look_103 : decode cX4_look 103 = .ok (.iload_n 3, 1) := by decide +kernel
theorem dX4_look_104 : decode cX4_look 104 = .ok (.bipush 22, 2) := by decide +kernel
theorem dX4_look_106 : decode cX4_look 106 = .ok (.if_icmp .ne 25, 3) := by decide +kernel
theorem dX4_look_109 : decode cX4_look 109 = .ok (.aload_n 0, 1) := by decide +kernel
theorem dX4_look_110 : decode cX4_look 110 = .ok (.getfield 77, 3) := by decide +kernel
theorem dX4_look_113 : decode cX4_look 113 = .ok (.aload_n 0, 1) := by decide +kernel
theorem dX4_look_114 : decode cX4_look 114 = .ok (.getfield 95, 3) := by decide +kernel
theorem dX4_look_117 : decode cX4_look 117 = .ok (.iconst 1, 1) := by decide +kernel
theorem dX4_look_118 : decode cX4_look 118 = .ok (.isub, 1) := by decide +kernel
theorem dX4_look_119 : decode cX4_look 119 = .ok (.iload_n 3, 1) := by decide +kernel
theorem dX4_look_120 : decode cX4_look 120 = .ok (.bipush 12, 2) := by decide +kernel
theorem dX4_look_122 : decode cX4_look 122 = .ok (.if_icmp .ne 7, 3) := by decide +kernel
theorem dX4_look_125 : decode cX4_look 125 = .ok (.iconst 2, 1) := by decide +kernel
theorem dX4_look_126 : decode cX4_look 126 = .ok (.goto 4, 3) := by decide +kernel
theorem dX4_look_129 : decode cX4_look 129 = .ok (.iconst 1, 1) := by decide +kernel
theorem dX4_look_130 : decode cX4_look 130 = .ok (.iastore, 1) := by decide +kernel
theorem dX4_look_131 : decode cX4_look 131 = .ok (.iinc 2 1, 3) := by decide +kernel
theorem dX4_look_134 : decode cX4_look 134 = .ok (.goto (-124), 3) := by decide +kernel
theorem dX4_look_137 : decode cX4_look 137 = .ok (.aload_n 0, 1) := by decide +kernel
theorem dX4_look_138 : decode cX4_look 138 = .ok (.iconst 0, 1) := by decide +kernel
theorem dX4_look_139 : decode cX4_look 139 = .ok (.putfield 102, 3) := by decide +kernel
theorem dX4_look_142 : decode cX4_look 142 = .ok (.iconst 0, 1) := by decide +kernel
theorem dX4_look_143 : decode cX4_look 143 = .ok (.istore_n 2, 1) := by decide +kernel
theorem dX4_look_144 : decode cX4_look 144 = .ok (.iload_n 2, 1) := by decide +kernel
theorem dX4_look_145 : decode cX4_look 145 = .ok (.aload_n 0, 1) := by decide +kernel
theorem dX4_look_146 : decode cX4_look 146 = .ok (.getfield 95, 3) := by decide +kernel
theorem dX4_look_149 : decode cX4_look 149 = .ok (.if_icmp .ge 30, 3) := by decide +kernel
theorem dX4_look_152 : decode cX4_look 152 = .ok (.aload_n 0, 1) := by decide +kernel
theorem dX4_look_153 : decode cX4_look 153 = .ok (.getfield 68, 3) := by decide +kernel
theorem dX4_look_156 : decode cX4_look 156 = .ok (.iload_n 2, 1) := by decide +kernel
theorem dX4_look_157 : decode cX4_look 157 = .ok (.iaload, 1) := by decide +kernel
theorem dX4_look_158 : decode cX4_look 158 = .ok (.bipush 13, 2) := by decide +kernel
theorem dX4_look_160 : decode cX4_look 160 = .ok (.if_icmp .ne 13, 3) := by decide +kernel
theorem dX4_look_163 : decode cX4_look 163 = .ok (.aload_n 0, 1) := by decide +kernel
theorem dX4_look_164 : decode cX4_look 164 = .ok (.dup, 1) := by decide +kernel
theorem dX4_look_165 : decode cX4_look 165 = .ok (.getfield 102, 3) := by decide +kernel
theorem dX4_look_168 : decode cX4_look 168 = .ok (.iconst 1, 1) := by decide +kernel
theorem dX4_look_169 : decode cX4_look 169 = .ok (.iadd, 1) := by decide +kernel
theorem dX4_look_170 : decode cX4_look 170 = .ok (.putfield 102, 3) := by decide +kernel
theorem dX4_look_173 : decode cX4_look 173 = .ok (.iinc 2 1, 3) := by decide +kernel
theorem dX4_look_176 : decode cX4_look 176 = .ok (.goto (-32), 3) := by decide +kernel
theorem dX4_look_179 : decode cX4_look 179 = .ok (.return_, 1) := by decide +kernel
theorem dX4_stands_0 : decode cX4_stands 0 = .ok (.aload_n 0, 1) := by decide +kernel
theorem dX4_stands_1 : decode cX4_stands 1 = .ok (.getfield 95, 3) := by decide +kernel
theorem dX4_stands_4 : decode cX4_stands 4 = .ok (.ifCond .ne 7, 3) := by decide +kernel
theorem dX4_stands_7 : decode cX4_stands 7 = .ok (.iconst (-1), 1) := by decide +kernel
theorem dX4_stands_8 : decode cX4_stands 8 = .ok (.goto 14, 3) := by decide +kernel
theorem dX4_stands_11 : decode cX4_stands 11 = .ok (.aload_n 0, 1) := by decide +kernel
theorem dX4_stands_12 : decode cX4_stands 12 = .ok (.getfield 68, 3) := by decide +kernel
theorem dX4_stands_15 : decode cX4_stands 15 = .ok (.aload_n 0, 1) := by decide +kernel
theorem dX4_stands_16 : decode cX4_stands 16 = .ok (.getfield 95, 3) := by decide +kernel
theorem dX4_stands_19 : decode cX4_stands 19 = .ok (.iconst 1, 1) := by decide +kernel
theorem dX4_stands_20 : decode cX4_stands 20 = .ok (.isub, 1) := by decide +kernel
theorem dX4_stands_21 : decode cX4_stands 21 = .ok (.iaload, 1) := by decide +kernel
theorem dX4_stands_22 : decode cX4_stands 22 = .ok (.istore_n 3, 1) := by decide +kernel
theorem dX4_stands_23 : decode cX4_stands 23 = .ok (.aload_n 0, 1) := by decide +kernel
theorem dX4_stands_24 : decode cX4_stands 24 = .ok (.getfield 95, 3) := by decide +kernel
theorem dX4_stands_27 : decode cX4_stands 27 = .ok (.ifCond .ne 7, 3) := by decide +kernel
theorem dX4_stands_30 : decode cX4_stands 30 = .ok (.iconst 0, 1) := by decide +kernel
theorem dX4_stands_31 : decode cX4_stands 31 = .ok (.goto 14, 3) := by decide +kernel
theorem dX4_stands_34 : decode cX4_stands 34 = .ok (.aload_n 0, 1) := by decide +kernel
theorem dX4_stands_35 : decode cX4_stands 35 = .ok (.getfield 77, 3) := by decide +kernel
theorem dX4_stands_38 : decode cX4_stands 38 = .ok (.aload_n 0, 1) := by decide +kernel
theorem dX4_stands_39 : decode cX4_stands 39 = .ok (.getfield 95, 3) := by decide +kernel
theorem dX4_stands_42 : decode cX4_stands 42 = .ok (.iconst 1, 1) := by decide +kernel
theorem dX4_stands_43 : decode cX4_stands 43 = .ok (.isub, 1) := by decide +kernel
theorem dX4_stands_44 : decode cX4_stands 44 = .ok (.iaload, 1) := by decide +kernel
theorem dX4_stands_45 : decode cX4_stands 45 = .ok (.istore 4, 2) := by decide +kernel
theorem dX4_stands_47 : decode cX4_stands 47 = .ok (.iload_n 1, 1) := by decide +kernel
theorem dX4_stands_48 : decode cX4_stands 48 = .ok (.tableswitch 143 11 22 #[64, 81, 143, 143, 143, 116, 129, 129, 143, 143, 143, 99], 64) := by decide +kernel
theorem dX4_stands_112 : decode cX4_stands 112 = .ok (.iload_n 3, 1) := by decide +kernel
theorem dX4_stands_113 : decode cX4_stands 113 = .ok (.bipush 10, 2) := by decide +kernel
theorem dX4_stands_115 : decode cX4_stands 115 = .ok (.if_icmp .ne 12, 3) := by decide +kernel
theorem dX4_stands_118 : decode cX4_stands 118 = .ok (.iload 4, 2) := by decide +kernel
theorem dX4_stands_120 : decode cX4_stands 120 = .ok (.ifCond .ne 7, 3) := by decide +kernel
theorem dX4_stands_123 : decode cX4_stands 123 = .ok (.iconst 1, 1) := by decide +kernel
theorem dX4_stands_124 : decode cX4_stands 124 = .ok (.goto 4, 3) := by decide +kernel
theorem dX4_stands_127 : decode cX4_stands 127 = .ok (.iconst 0, 1) := by decide +kernel
theorem dX4_stands_128 : decode cX4_stands 128 = .ok (.ireturn, 1) := by decide +kernel
theorem dX4_stands_129 : decode cX4_stands 129 = .ok (.iload_n 3, 1) := by decide +kernel
theorem dX4_stands_130 : decode cX4_stands 130 = .ok (.bipush 10, 2) := by decide +kernel
theorem dX4_stands_132 : decode cX4_stands 132 = .ok (.if_icmp .ne 13, 3) := by decide +kernel
theorem dX4_stands_135 : decode cX4_stands 135 = .ok (.iload 4, 2) := by decide +kernel
theorem dX4_stands_137 : decode cX4_stands 137 = .ok (.iconst 2, 1) := by decide +kernel
theorem dX4_stands_138 : decode cX4_stands 138 = .ok (.if_icmp .ge 7, 3) := by decide +kernel
theorem dX4_stands_141 : decode cX4_stands 141 = .ok (.iconst 1, 1) := by decide +kernel
theorem dX4_stands_142 : decode cX4_stands 142 = .ok (.goto 4, 3) := by decide +kernel
theorem dX4_stands_145 : decode cX4_stands 145 = .ok (.iconst 0, 1) := by decide +kernel
theorem dX4_stands_146 : decode cX4_stands 146 = .ok (.ireturn, 1) := by decide +kernel
theorem dX4_stands_147 : decode cX4_stands 147 = .ok (.iload_n 3, 1) := by decide +kernel
theorem dX4_stands_148 : decode cX4_stands 148 = .ok (.bipush 21, 2) := by decide +kernel
theorem dX4_stands_150 : decode cX4_stands 150 = .ok (.if_icmp .ne 12, 3) := by decide +kernel
theorem dX4_stands_153 : decode cX4_stands 153 = .ok (.iload 4, 2) := by decide +kernel
theorem dX4_stands_155 : decode cX4_stands 155 = .ok (.ifCond .ne 7, 3) := by decide +kernel
theorem dX4_stands_158 : decode cX4_stands 158 = .ok (.iconst 1, 1) := by decide +kernel
theorem dX4_stands_159 : decode cX4_stands 159 = .ok (.goto 4, 3) := by decide +kernel
theorem dX4_stands_162 : decode cX4_stands 162 = .ok (.iconst 0, 1) := by decide +kernel
theorem dX4_stands_163 : decode cX4_stands 163 = .ok (.ireturn, 1) := by decide +kernel
theorem dX4_stands_164 : decode cX4_stands 164 = .ok (.aload_n 0, 1) := by decide +kernel
theorem dX4_stands_165 : decode cX4_stands 165 = .ok (.getfield 95, 3) := by decide +kernel
theorem dX4_stands_168 : decode cX4_stands 168 = .ok (.ifCond .le 7, 3) := by decide +kernel
theorem dX4_stands_171 : decode cX4_stands 171 = .ok (.iconst 1, 1) := by decide +kernel
theorem dX4_stands_172 : decode cX4_stands 172 = .ok (.goto 4, 3) := by decide +kernel
theorem dX4_stands_175 : decode cX4_stands 175 = .ok (.iconst 0, 1) := by decide +kernel
theorem dX4_stands_176 : decode cX4_stands 176 = .ok (.ireturn, 1) := by decide +kernel
theorem dX4_stands_177 : decode cX4_stands 177 = .ok (.aload_n 0, 1) := by decide +kernel
theorem dX4_stands_178 : decode cX4_stands 178 = .ok (.getfield 102, 3) := by decide +kernel
theorem dX4_stands_181 : decode cX4_stands 181 = .ok (.iload_n 2, 1) := by decide +kernel
theorem dX4_stands_182 : decode cX4_stands 182 = .ok (.if_icmp .le 7, 3) := by decide +kernel
theorem dX4_stands_185 : decode cX4_stands 185 = .ok (.iconst 1, 1) := by decide +kernel
theorem dX4_stands_186 : decode cX4_stands 186 = .ok (.goto 4, 3) := by decide +kernel
theorem dX4_stands_189 : decode cX4_stands 189 = .ok (.iconst 0, 1) := by decide +kernel
theorem dX4_stands_190 : decode cX4_stands 190 = .ok (.ireturn, 1) := by decide +kernel
theorem dX4_stands_191 : decode cX4_stands 191 = .ok (.iload_n 1, 1) := by decide +kernel
theorem dX4_stands_192 : decode cX4_stands 192 = .ok (.invokestatic 98, 3) := by decide +kernel
theorem dX4_stands_195 : decode cX4_stands 195 = .ok (.ifCond .eq 12, 3) := by decide +kernel
theorem dX4_stands_198 : decode cX4_stands 198 = .ok (.aload_n 0, 1) := by decide +kernel
theorem dX4_stands_199 : decode cX4_stands 199 = .ok (.getfield 95, 3) := by decide +kernel
theorem dX4_stands_202 : decode cX4_stands 202 = .ok (.bipush 10, 2) := by decide +kernel
theorem dX4_stands_204 : decode cX4_stands 204 = .ok (.if_icmp .ge 7, 3) := by decide +kernel
theorem dX4_stands_207 : decode cX4_stands 207 = .ok (.iconst 1, 1) := by decide +kernel
theorem dX4_stands_208 : decode cX4_stands 208 = .ok (.goto 4, 3) := by decide +kernel
theorem dX4_stands_211 : decode cX4_stands 211 = .ok (.iconst 0, 1) := by decide +kernel
theorem dX4_stands_212 : decode cX4_stands 212 = .ok (.ireturn, 1) := by decide +kernel
theorem dX4_within_0 : decode cX4_within 0 = .ok (.iload_n 0, 1) := by decide +kernel
theorem dX4_within_1 : decode cX4_within 1 = .ok (.ifCond .lt 12, 3) := by decide +kernel
theorem dX4_within_4 : decode cX4_within 4 = .ok (.iload_n 0, 1) := by decide +kernel
theorem dX4_within_5 : decode cX4_within 5 = .ok (.iload_n 1, 1) := by decide +kernel
theorem dX4_within_6 : decode cX4_within 6 = .ok (.if_icmp .gt 7, 3) := by decide +kernel
theorem dX4_within_9 : decode cX4_within 9 = .ok (.iconst 1, 1) := by decide +kernel
theorem dX4_within_10 : decode cX4_within 10 = .ok (.goto 4, 3) := by decide +kernel
theorem dX4_within_13 : decode cX4_within 13 = .ok (.iconst 0, 1) := by decide +kernel
theorem dX4_within_14 : decode cX4_within 14 = .ok (.ireturn, 1) := by decide +kernel
theorem dX4_right_0 : decode cX4_right 0 = .ok (.iload_n 0, 1) := by decide +kernel
theorem dX4_right_1 : decode cX4_right 1 = .ok (.tableswitch 201 0 21 #[103, 103, 103, 110, 110, 110, 103, 134, 156, 162, 169, 201, 201, 162, 201, 201, 201, 162, 162, 103, 177, 103], 103) := by decide +kernel
theorem dX4_right_104 : decode cX4_right 104 = .ok (.iload_n 1, 1) := by decide +kernel
theorem dX4_right_105 : decode cX4_right 105 = .ok (.bipush 7, 2) := by decide +kernel
theorem dX4_right_107 : decode cX4_right 107 = .ok (.invokestatic 105, 3) := by decide +kernel
theorem dX4_right_110 : decode cX4_right 110 = .ok (.ireturn, 1) := by decide +kernel
theorem dX4_right_111 : decode cX4_right 111 = .ok (.iload_n 1, 1) := by decide +kernel
theorem dX4_right_112 : decode cX4_right 112 = .ok (.bipush 7, 2) := by decide +kernel
theorem dX4_right_114 : decode cX4_right 114 = .ok (.invokestatic 105, 3) := by decide +kernel
theorem dX4_right_117 : decode cX4_right 117 = .ok (.ifCond .eq 16, 3) := by decide +kernel
theorem dX4_right_120 : decode cX4_right 120 = .ok (.iload_n 2, 1) := by decide +kernel
theorem dX4_right_121 : decode cX4_right 121 = .ok (.bipush 7, 2) := by decide +kernel
theorem dX4_right_123 : decode cX4_right 123 = .ok (.invokestatic 105, 3) := by decide +kernel
theorem dX4_right_126 : decode cX4_right 126 = .ok (.ifCond .eq 7, 3) := by decide +kernel
theorem dX4_right_129 : decode cX4_right 129 = .ok (.iconst 1, 1) := by decide +kernel
theorem dX4_right_130 : decode cX4_right 130 = .ok (.goto 4, 3) := by decide +kernel
theorem dX4_right_133 : decode cX4_right 133 = .ok (.iconst 0, 1) := by decide +kernel
theorem dX4_right_134 : decode cX4_right 134 = .ok (.ireturn, 1) := by decide +kernel
theorem dX4_right_135 : decode cX4_right 135 = .ok (.iload_n 1, 1) := by decide +kernel
theorem dX4_right_136 : decode cX4_right 136 = .ok (.iconst 3, 1) := by decide +kernel
theorem dX4_right_137 : decode cX4_right 137 = .ok (.invokestatic 105, 3) := by decide +kernel
theorem dX4_right_140 : decode cX4_right 140 = .ok (.ifCond .eq 15, 3) := by decide +kernel
theorem dX4_right_143 : decode cX4_right 143 = .ok (.iload_n 2, 1) := by decide +kernel
theorem dX4_right_144 : decode cX4_right 144 = .ok (.iconst 2, 1) := by decide +kernel
theorem dX4_right_145 : decode cX4_right 145 = .ok (.invokestatic 105, 3) := by decide +kernel
theorem dX4_right_148 : decode cX4_right 148 = .ok (.ifCond .eq 7, 3) := by decide +kernel
theorem dX4_right_151 : decode cX4_right 151 = .ok (.iconst 1, 1) := by decide +kernel
theorem dX4_right_152 : decode cX4_right 152 = .ok (.goto 4, 3) := by decide +kernel
theorem dX4_right_155 : decode cX4_right 155 = .ok (.iconst 0, 1) := by decide +kernel
theorem dX4_right_156 : decode cX4_right 156 = .ok (.ireturn, 1) := by decide +kernel
theorem dX4_right_157 : decode cX4_right 157 = .ok (.iload_n 1, 1) := by decide +kernel
theorem dX4_right_158 : decode cX4_right 158 = .ok (.iconst 3, 1) := by decide +kernel
theorem dX4_right_159 : decode cX4_right 159 = .ok (.invokestatic 105, 3) := by decide +kernel
theorem dX4_right_162 : decode cX4_right 162 = .ok (.ireturn, 1) := by decide +kernel
theorem dX4_right_163 : decode cX4_right 163 = .ok (.iload_n 2, 1) := by decide +kernel
theorem dX4_right_164 : decode cX4_right 164 = .ok (.bipush 9, 2) := by decide +kernel
theorem dX4_right_166 : decode cX4_right 166 = .ok (.invokestatic 105, 3) := by decide +kernel
theorem dX4_right_169 : decode cX4_right 169 = .ok (.ireturn, 1) := by decide +kernel
theorem dX4_right_170 : decode cX4_right 170 = .ok (.iload_n 2, 1) := by decide +kernel
theorem dX4_right_171 : decode cX4_right 171 = .ok (.sipush 1023, 3) := by decide +kernel
theorem dX4_right_174 : decode cX4_right 174 = .ok (.invokestatic 105, 3) := by decide +kernel
theorem dX4_right_177 : decode cX4_right 177 = .ok (.ireturn, 1) := by decide +kernel
theorem dX4_right_178 : decode cX4_right 178 = .ok (.iload_n 1, 1) := by decide +kernel
theorem dX4_right_179 : decode cX4_right 179 = .ok (.bipush 7, 2) := by decide +kernel
theorem dX4_right_181 : decode cX4_right 181 = .ok (.invokestatic 105, 3) := by decide +kernel
theorem dX4_right_184 : decode cX4_right 184 = .ok (.ifCond .eq 16, 3) := by decide +kernel
theorem dX4_right_187 : decode cX4_right 187 = .ok (.iload_n 2, 1) := by decide +kernel
theorem dX4_right_188 : decode cX4_right 188 = .ok (.bipush 7, 2) := by decide +kernel
theorem dX4_right_190 : decode cX4_right 190 = .ok (.invokestatic 105, 3) := by decide +kernel
theorem dX4_right_193 : decode cX4_right 193 = .ok (.ifCond .eq 7, 3) := by decide +kernel
theorem dX4_right_196 : decode cX4_right 196 = .ok (.iconst 1, 1) := by decide +kernel
theorem dX4_right_197 : decode cX4_right 197 = .ok (.goto 4, 3) := by decide +kernel
theorem dX4_right_200 : decode cX4_right 200 = .ok (.iconst 0, 1) := by decide +kernel
theorem dX4_right_201 : decode cX4_right 201 = .ok (.ireturn, 1) := by decide +kernel
theorem dX4_right_202 : decode cX4_right 202 = .ok (.iload_n 0, 1) := by decide +kernel
theorem dX4_right_203 : decode cX4_right 203 = .ok (.bipush 23, 2) := by decide +kernel
theorem dX4_right_205 : decode cX4_right 205 = .ok (.invokestatic 105, 3) := by decide +kernel
theorem dX4_right_208 : decode cX4_right 208 = .ok (.ireturn, 1) := by decide +kernel
theorem dX4_node_0 : decode cX4_node 0 = .ok (.iload_n 1, 1) := by decide +kernel
theorem dX4_node_1 : decode cX4_node 1 = .ok (.bipush 7, 2) := by decide +kernel
theorem dX4_node_3 : decode cX4_node 3 = .ok (.invokestatic 105, 3) := by decide +kernel
theorem dX4_node_6 : decode cX4_node 6 = .ok (.ifCond .eq 13, 3) := by decide +kernel
theorem dX4_node_9 : decode cX4_node 9 = .ok (.iload_n 2, 1) := by decide +kernel
theorem dX4_node_10 : decode cX4_node 10 = .ok (.iload_n 3, 1) := by decide +kernel
theorem dX4_node_11 : decode cX4_node 11 = .ok (.iload 4, 2) := by decide +kernel
theorem dX4_node_13 : decode cX4_node 13 = .ok (.invokestatic 109, 3) := by decide +kernel
theorem dX4_node_16 : decode cX4_node 16 = .ok (.ifCond .ne 9, 3) := by decide +kernel
theorem dX4_node_19 : decode cX4_node 19 = .ok (.aload_n 0, 1) := by decide +kernel
theorem dX4_node_20 : decode cX4_node 20 = .ok (.iconst 1, 1) := by decide +kernel
theorem dX4_node_21 : decode cX4_node 21 = .ok (.invokevirtual 113, 3) := by decide +kernel
theorem dX4_node_24 : decode cX4_node 24 = .ok (.ireturn, 1) := by decide +kernel
theorem dX4_node_25 : decode cX4_node 25 = .ok (.aload_n 0, 1) := by decide +kernel
theorem dX4_node_26 : decode cX4_node 26 = .ok (.iload_n 1, 1) := by decide +kernel
theorem dX4_node_27 : decode cX4_node 27 = .ok (.invokevirtual 117, 3) := by decide +kernel
theorem dX4_node_30 : decode cX4_node 30 = .ok (.aload_n 0, 1) := by decide +kernel
theorem dX4_node_31 : decode cX4_node 31 = .ok (.iload_n 2, 1) := by decide +kernel
theorem dX4_node_32 : decode cX4_node 32 = .ok (.iload 4, 2) := by decide +kernel
theorem dX4_node_34 : decode cX4_node 34 = .ok (.invokevirtual 121, 3) := by decide +kernel
theorem dX4_node_37 : decode cX4_node 37 = .ok (.ifCond .eq 14, 3) := by decide +kernel
theorem dX4_node_40 : decode cX4_node 40 = .ok (.aload_n 0, 1) := by decide +kernel
theorem dX4_node_41 : decode cX4_node 41 = .ok (.getfield 19, 3) := by decide +kernel
theorem dX4_node_44 : decode cX4_node 44 = .ok (.iload_n 1, 1) := by decide +kernel
theorem dX4_node_45 : decode cX4_node 45 = .ok (.iaload, 1) := by decide +kernel
theorem dX4_node_46 : decode cX4_node 46 = .ok (.bipush 60, 2) := by decide +kernel
theorem dX4_node_48 : decode cX4_node 48 = .ok (.if_icmp .ne 9, 3) := by decide +kernel
theorem dX4_node_51 : decode cX4_node 51 = .ok (.aload_n 0, 1) := by decide +kernel
theorem dX4_node_52 : decode cX4_node 52 = .ok (.iconst 2, 1) := by decide +kernel
theorem dX4_node_53 : decode cX4_node 53 = .ok (.invokevirtual 113, 3) := by decide +kernel
theorem dX4_node_56 : decode cX4_node 56 = .ok (.ireturn, 1) := by decide +kernel
theorem dX4_node_57 : decode cX4_node 57 = .ok (.aload_n 0, 1) := by decide +kernel
theorem dX4_node_58 : decode cX4_node 58 = .ok (.iconst 0, 1) := by decide +kernel
theorem dX4_node_59 : decode cX4_node 59 = .ok (.putfield 92, 3) := by decide +kernel
theorem dX4_node_62 : decode cX4_node 62 = .ok (.bipush 60, 2) := by decide +kernel
theorem dX4_node_64 : decode cX4_node 64 = .ok (.iload_n 1, 1) := by decide +kernel
theorem dX4_node_65 : decode cX4_node 65 = .ok (.imul, 1) := by decide +kernel
theorem dX4_node_66 : decode cX4_node 66 = .ok (.aload_n 0, 1) := by decide +kernel
theorem dX4_node_67 : decode cX4_node 67 = .ok (.getfield 19, 3) := by decide +kernel
theorem dX4_node_70 : decode cX4_node 70 = .ok (.iload_n 1, 1) := by decide +kernel
theorem dX4_node_71 : decode cX4_node 71 = .ok (.iaload, 1) := by decide +kernel
theorem dX4_node_72 : decode cX4_node 72 = .ok (.iadd, 1) := by decide +kernel
theorem dX4_node_73 : decode cX4_node 73 = .ok (.istore 5, 2) := by decide +kernel
theorem dX4_node_75 : decode cX4_node 75 = .ok (.aload_n 0, 1) := by decide +kernel
theorem dX4_node_76 : decode cX4_node 76 = .ok (.getfield 7, 3) := by decide +kernel
theorem dX4_node_79 : decode cX4_node 79 = .ok (.iload 5, 2) := by decide +kernel
theorem dX4_node_81 : decode cX4_node 81 = .ok (.iload_n 2, 1) := by decide +kernel
theorem dX4_node_82 : decode cX4_node 82 = .ok (.iastore, 1) := by decide +kernel
theorem dX4_node_83 : decode cX4_node 83 = .ok (.aload_n 0, 1) := by decide +kernel
theorem dX4_node_84 : decode cX4_node 84 = .ok (.getfield 13, 3) := by decide +kernel
theorem dX4_node_87 : decode cX4_node 87 = .ok (.iload 5, 2) := by decide +kernel
theorem dX4_node_89 : decode cX4_node 89 = .ok (.iload_n 3, 1) := by decide +kernel
theorem dX4_node_90 : decode cX4_node 90 = .ok (.iastore, 1) := by decide +kernel
theorem dX4_node_91 : decode cX4_node 91 = .ok (.aload_n 0, 1) := by decide +kernel
theorem dX4_node_92 : decode cX4_node 92 = .ok (.getfield 16, 3) := by decide +kernel
theorem dX4_node_95 : decode cX4_node 95 = .ok (.iload 5, 2) := by decide +kernel
theorem dX4_node_97 : decode cX4_node 97 = .ok (.iload 4, 2) := by decide +kernel
theorem dX4_node_99 : decode cX4_node 99 = .ok (.iastore, 1) := by decide +kernel
theorem dX4_node_100 : decode cX4_node 100 = .ok (.aload_n 0, 1) := by decide +kernel
theorem dX4_node_101 : decode cX4_node 101 = .ok (.getfield 19, 3) := by decide +kernel
theorem dX4_node_104 : decode cX4_node 104 = .ok (.iload_n 1, 1) := by decide +kernel
theorem dX4_node_105 : decode cX4_node 105 = .ok (.dup2, 1) := by decide +kernel
theorem dX4_node_106 : decode cX4_node 106 = .ok (.iaload, 1) := by decide +kernel
theorem dX4_node_107 : decode cX4_node 107 = .ok (.iconst 1, 1) := by decide +kernel
theorem dX4_node_108 : decode cX4_node 108 = .ok (.iadd, 1) := by decide +kernel
theorem dX4_node_109 : decode cX4_node 109 = .ok (.iastore, 1) := by decide +kernel
theorem dX4_node_110 : decode cX4_node 110 = .ok (.aload_n 0, 1) := by decide +kernel
theorem dX4_node_111 : decode cX4_node 111 = .ok (.getfield 19, 3) := by decide +kernel
theorem dX4_node_114 : decode cX4_node 114 = .ok (.iload_n 1, 1) := by decide +kernel
theorem dX4_node_115 : decode cX4_node 115 = .ok (.iaload, 1) := by decide +kernel
theorem dX4_node_116 : decode cX4_node 116 = .ok (.ireturn, 1) := by decide +kernel
theorem dX4_clear_0 : decode cX4_clear 0 = .ok (.aload_n 0, 1) := by decide +kernel
theorem dX4_clear_1 : decode cX4_clear 1 = .ok (.iload_n 1, 1) := by decide +kernel
theorem dX4_clear_2 : decode cX4_clear 2 = .ok (.bipush 7, 2) := by decide +kernel
theorem dX4_clear_4 : decode cX4_clear 4 = .ok (.invokestatic 105, 3) := by decide +kernel
theorem dX4_clear_7 : decode cX4_clear 7 = .ok (.ifCond .eq 7, 3) := by decide +kernel
theorem dX4_clear_10 : decode cX4_clear 10 = .ok (.iconst 0, 1) := by decide +kernel
theorem dX4_clear_11 : decode cX4_clear 11 = .ok (.goto 4, 3) := by decide +kernel
theorem dX4_clear_14 : decode cX4_clear 14 = .ok (.iconst 1, 1) := by decide +kernel
theorem dX4_clear_15 : decode cX4_clear 15 = .ok (.putfield 92, 3) := by decide +kernel
theorem dX4_clear_18 : decode cX4_clear 18 = .ok (.aload_n 0, 1) := by decide +kernel
theorem dX4_clear_19 : decode cX4_clear 19 = .ok (.getfield 92, 3) := by decide +kernel
theorem dX4_clear_22 : decode cX4_clear 22 = .ok (.ifCond .ne 10, 3) := by decide +kernel
theorem dX4_clear_25 : decode cX4_clear 25 = .ok (.aload_n 0, 1) := by decide +kernel
theorem dX4_clear_26 : decode cX4_clear 26 = .ok (.getfield 19, 3) := by decide +kernel
theorem dX4_clear_29 : decode cX4_clear 29 = .ok (.iload_n 1, 1) := by decide +kernel
theorem dX4_clear_30 : decode cX4_clear 30 = .ok (.iconst 0, 1) := by decide +kernel
theorem dX4_clear_31 : decode cX4_clear 31 = .ok (.iastore, 1) := by decide +kernel
theorem dX4_clear_32 : decode cX4_clear 32 = .ok (.return_, 1) := by decide +kernel
theorem dX4_unended_0 : decode cX4_unended 0 = .ok (.iconst 0, 1) := by decide +kernel
theorem dX4_unended_1 : decode cX4_unended 1 = .ok (.istore_n 2, 1) := by decide +kernel
theorem dX4_unended_2 : decode cX4_unended 2 = .ok (.bipush 60, 2) := by decide +kernel
theorem dX4_unended_4 : decode cX4_unended 4 = .ok (.iload_n 1, 1) := by decide +kernel
theorem dX4_unended_5 : decode cX4_unended 5 = .ok (.imul, 1) := by decide +kernel
theorem dX4_unended_6 : decode cX4_unended 6 = .ok (.istore_n 3, 1) := by decide +kernel
theorem dX4_unended_7 : decode cX4_unended 7 = .ok (.iload_n 3, 1) := by decide +kernel
theorem dX4_unended_8 : decode cX4_unended 8 = .ok (.bipush 60, 2) := by decide +kernel
theorem dX4_unended_10 : decode cX4_unended 10 = .ok (.iload_n 1, 1) := by decide +kernel
theorem dX4_unended_11 : decode cX4_unended 11 = .ok (.imul, 1) := by decide +kernel
theorem dX4_unended_12 : decode cX4_unended 12 = .ok (.aload_n 0, 1) := by decide +kernel
theorem dX4_unended_13 : decode cX4_unended 13 = .ok (.getfield 19, 3) := by decide +kernel
theorem dX4_unended_16 : decode cX4_unended 16 = .ok (.iload_n 1, 1) := by decide +kernel
theorem dX4_unended_17 : decode cX4_unended 17 = .ok (.iaload, 1) := by decide +kernel
theorem dX4_unended_18 : decode cX4_unended 18 = .ok (.iadd, 1) := by decide +kernel
theorem dX4_unended_19 : decode cX4_unended 19 = .ok (.if_icmp .ge 38, 3) := by decide +kernel
theorem dX4_unended_22 : decode cX4_unended 22 = .ok (.aload_n 0, 1) := by decide +kernel
theorem dX4_unended_23 : decode cX4_unended 23 = .ok (.getfield 7, 3) := by decide +kernel
theorem dX4_unended_26 : decode cX4_unended 26 = .ok (.iload_n 3, 1) := by decide +kernel
theorem dX4_unended_27 : decode cX4_unended 27 = .ok (.iaload, 1) := by decide +kernel
theorem dX4_unended_28 : decode cX4_unended 28 = .ok (.invokestatic 98, 3) := by decide +kernel
theorem dX4_unended_31 : decode cX4_unended 31 = .ok (.ifCond .eq 6, 3) := by decide +kernel
theorem dX4_unended_34 : decode cX4_unended 34 = .ok (.iinc 2 1, 3) := by decide +kernel
theorem dX4_unended_37 : decode cX4_unended 37 = .ok (.aload_n 0, 1) := by decide +kernel
theorem dX4_unended_38 : decode cX4_unended 38 = .ok (.getfield 7, 3) := by decide +kernel
theorem dX4_unended_41 : decode cX4_unended 41 = .ok (.iload_n 3, 1) := by decide +kernel
theorem dX4_unended_42 : decode cX4_unended 42 = .ok (.iaload, 1) := by decide +kernel
theorem dX4_unended_43 : decode cX4_unended 43 = .ok (.bipush 16, 2) := by decide +kernel
theorem dX4_unended_45 : decode cX4_unended 45 = .ok (.if_icmp .ne 6, 3) := by decide +kernel
theorem dX4_unended_48 : decode cX4_unended 48 = .ok (.iinc 2 (-1), 3) := by decide +kernel
theorem dX4_unended_51 : decode cX4_unended 51 = .ok (.iinc 3 1, 3) := by decide +kernel
theorem dX4_unended_54 : decode cX4_unended 54 = .ok (.goto (-47), 3) := by decide +kernel
theorem dX4_unended_57 : decode cX4_unended 57 = .ok (.iload_n 2, 1) := by decide +kernel
theorem dX4_unended_58 : decode cX4_unended 58 = .ok (.ireturn, 1) := by decide +kernel
theorem dX4_after_0 : decode cX4_after 0 = .ok (.iconst 0, 1) := by decide +kernel
theorem dX4_after_1 : decode cX4_after 1 = .ok (.istore_n 2, 1) := by decide +kernel
theorem dX4_after_2 : decode cX4_after 2 = .ok (.iload_n 1, 1) := by decide +kernel
theorem dX4_after_3 : decode cX4_after 3 = .ok (.istore_n 3, 1) := by decide +kernel
theorem dX4_after_4 : decode cX4_after 4 = .ok (.iload_n 2, 1) := by decide +kernel
theorem dX4_after_5 : decode cX4_after 5 = .ok (.ifCond .gt 47, 3) := by decide +kernel
theorem dX4_after_8 : decode cX4_after 8 = .ok (.aload_n 0, 1) := by decide +kernel
theorem dX4_after_9 : decode cX4_after 9 = .ok (.getfield 7, 3) := by decide +kernel
theorem dX4_after_12 : decode cX4_after 12 = .ok (.iload_n 3, 1) := by decide +kernel
theorem dX4_after_13 : decode cX4_after 13 = .ok (.iaload, 1) := by decide +kernel
theorem dX4_after_14 : decode cX4_after 14 = .ok (.bipush 11, 2) := by decide +kernel
theorem dX4_after_16 : decode cX4_after 16 = .ok (.if_icmp .eq 71, 3) := by decide +kernel
theorem dX4_after_19 : decode cX4_after 19 = .ok (.aload_n 0, 1) := by decide +kernel
theorem dX4_after_20 : decode cX4_after 20 = .ok (.getfield 7, 3) := by decide +kernel
theorem dX4_after_23 : decode cX4_after 23 = .ok (.iload_n 3, 1) := by decide +kernel
theorem dX4_after_24 : decode cX4_after 24 = .ok (.iaload, 1) := by decide +kernel
theorem dX4_after_25 : decode cX4_after 25 = .ok (.bipush 12, 2) := by decide +kernel
theorem dX4_after_27 : decode cX4_after 27 = .ok (.if_icmp .eq 60, 3) := by decide +kernel
theorem dX4_after_30 : decode cX4_after 30 = .ok (.aload_n 0, 1) := by decide +kernel
theorem dX4_after_31 : decode cX4_after 31 = .ok (.getfield 7, 3) := by decide +kernel
theorem dX4_after_34 : decode cX4_after 34 = .ok (.iload_n 3, 1) := by decide +kernel
theorem dX4_after_35 : decode cX4_after 35 = .ok (.iaload, 1) := by decide +kernel
theorem dX4_after_36 : decode cX4_after 36 = .ok (.bipush 22, 2) := by decide +kernel
theorem dX4_after_38 : decode cX4_after 38 = .ok (.if_icmp .eq 49, 3) := by decide +kernel
theorem dX4_after_41 : decode cX4_after 41 = .ok (.aload_n 0, 1) := by decide +kernel
theorem dX4_after_42 : decode cX4_after 42 = .ok (.getfield 7, 3) := by decide +kernel
theorem dX4_after_45 : decode cX4_after 45 = .ok (.iload_n 3, 1) := by decide +kernel
theorem dX4_after_46 : decode cX4_after 46 = .ok (.iaload, 1) := by decide +kernel
theorem dX4_after_47 : decode cX4_after 47 = .ok (.bipush 16, 2) := by decide +kernel
theorem dX4_after_49 : decode cX4_after 49 = .ok (.if_icmp .eq 38, 3) := by decide +kernel
theorem dX4_after_52 : decode cX4_after 52 = .ok (.aload_n 0, 1) := by decide +kernel
theorem dX4_after_53 : decode cX4_after 53 = .ok (.getfield 7, 3) := by decide +kernel
theorem dX4_after_56 : decode cX4_after 56 = .ok (.iload_n 3, 1) := by decide +kernel
theorem dX4_after_57 : decode cX4_after 57 = .ok (.iaload, 1) := by decide +kernel
theorem dX4_after_58 : decode cX4_after 58 = .ok (.invokestatic 98, 3) := by decide +kernel
theorem dX4_after_61 : decode cX4_after 61 = .ok (.ifCond .eq 6, 3) := by decide +kernel
theorem dX4_after_64 : decode cX4_after 64 = .ok (.iinc 2 1, 3) := by decide +kernel
theorem dX4_after_67 : decode cX4_after 67 = .ok (.aload_n 0, 1) := by decide +kernel
theorem dX4_after_68 : decode cX4_after 68 = .ok (.getfield 7, 3) := by decide +kernel
theorem dX4_after_71 : decode cX4_after 71 = .ok (.iload_n 3, 1) := by decide +kernel
theorem dX4_after_72 : decode cX4_after 72 = .ok (.iaload, 1) := by decide +kernel
theorem dX4_after_73 : decode cX4_after 73 = .ok (.bipush 16, 2) := by decide +kernel
theorem dX4_after_75 : decode cX4_after 75 = .ok (.if_icmp .ne 6, 3) := by decide +kernel
theorem dX4_after_78 : decode cX4_after 78 = .ok (.iinc 2 (-1), 3) := by decide +kernel
theorem dX4_after_81 : decode cX4_after 81 = .ok (.iinc 3 1, 3) := by decide +kernel
theorem dX4_after_84 : decode cX4_after 84 = .ok (.goto (-80), 3) := by decide +kernel
theorem dX4_after_87 : decode cX4_after 87 = .ok (.iload_n 3, 1) := by decide +kernel
theorem dX4_after_88 : decode cX4_after 88 = .ok (.ireturn, 1) := by decide +kernel
theorem dX4_endOf_0 : decode cX4_endOf 0 = .ok (.aload_n 0, 1) := by decide +kernel
theorem dX4_endOf_1 : decode cX4_endOf 1 = .ok (.iload_n 1, 1) := by decide +kernel
theorem dX4_endOf_2 : decode cX4_endOf 2 = .ok (.iconst 1, 1) := by decide +kernel
theorem dX4_endOf_3 : decode cX4_endOf 3 = .ok (.iadd, 1) := by decide +kernel
theorem dX4_endOf_4 : decode cX4_endOf 4 = .ok (.invokevirtual 124, 3) := by decide +kernel
theorem dX4_endOf_7 : decode cX4_endOf 7 = .ok (.istore_n 2, 1) := by decide +kernel
theorem dX4_endOf_8 : decode cX4_endOf 8 = .ok (.aload_n 0, 1) := by decide +kernel
theorem dX4_endOf_9 : decode cX4_endOf 9 = .ok (.getfield 7, 3) := by decide +kernel
theorem dX4_endOf_12 : decode cX4_endOf 12 = .ok (.iload_n 2, 1) := by decide +kernel
theorem dX4_endOf_13 : decode cX4_endOf 13 = .ok (.iaload, 1) := by decide +kernel
theorem dX4_endOf_14 : decode cX4_endOf 14 = .ok (.bipush 16, 2) := by decide +kernel
theorem dX4_endOf_16 : decode cX4_endOf 16 = .ok (.if_icmp .eq 14, 3) := by decide +kernel
theorem dX4_endOf_19 : decode cX4_endOf 19 = .ok (.aload_n 0, 1) := by decide +kernel
theorem dX4_endOf_20 : decode cX4_endOf 20 = .ok (.iload_n 2, 1) := by decide +kernel
theorem dX4_endOf_21 : decode cX4_endOf 21 = .ok (.iconst 1, 1) := by decide +kernel
theorem dX4_endOf_22 : decode cX4_endOf 22 = .ok (.iadd, 1) := by decide +kernel
theorem dX4_endOf_23 : decode cX4_endOf 23 = .ok (.invokevirtual 124, 3) := by decide +kernel
theorem dX4_endOf_26 : decode cX4_endOf 26 = .ok (.istore_n 2, 1) := by decide +kernel
theorem dX4_endOf_27 : decode cX4_endOf 27 = .ok (.goto (-19), 3) := by decide +kernel
theorem dX4_endOf_30 : decode cX4_endOf 30 = .ok (.iload_n 2, 1) := by decide +kernel
theorem dX4_endOf_31 : decode cX4_endOf 31 = .ok (.ireturn, 1) := by decide +kernel
theorem dX4_partOf_0 : decode cX4_partOf 0 = .ok (.aload_n 0, 1) := by decide +kernel
theorem dX4_partOf_1 : decode cX4_partOf 1 = .ok (.iload_n 1, 1) := by decide +kernel
theorem dX4_partOf_2 : decode cX4_partOf 2 = .ok (.iconst 1, 1) := by decide +kernel
theorem dX4_partOf_3 : decode cX4_partOf 3 = .ok (.iadd, 1) := by decide +kernel
theorem dX4_partOf_4 : decode cX4_partOf 4 = .ok (.invokevirtual 124, 3) := by decide +kernel
theorem dX4_partOf_7 : decode cX4_partOf 7 = .ok (.istore_n 3, 1) := by decide +kernel
theorem dX4_partOf_8 : decode cX4_partOf 8 = .ok (.aload_n 0, 1) := by decide +kernel
theorem dX4_partOf_9 : decode cX4_partOf 9 = .ok (.getfield 7, 3) := by decide +kernel
theorem dX4_partOf_12 : decode cX4_partOf 12 = .ok (.iload_n 3, 1) := by decide +kernel
theorem dX4_partOf_13 : decode cX4_partOf 13 = .ok (.iaload, 1) := by decide +kernel
theorem dX4_partOf_14 : decode cX4_partOf 14 = .ok (.bipush 16, 2) := by decide +kernel
theorem dX4_partOf_16 : decode cX4_partOf 16 = .ok (.if_icmp .eq 24, 3) := by decide +kernel
theorem dX4_partOf_19 : decode cX4_partOf 19 = .ok (.aload_n 0, 1) := by decide +kernel
theorem dX4_partOf_20 : decode cX4_partOf 20 = .ok (.getfield 7, 3) := by decide +kernel
theorem dX4_partOf_23 : decode cX4_partOf 23 = .ok (.iload_n 3, 1) := by decide +kernel
theorem dX4_partOf_24 : decode cX4_partOf 24 = .ok (.iaload, 1) := by decide +kernel
theorem dX4_partOf_25 : decode cX4_partOf 25 = .ok (.iload_n 2, 1) := by decide +kernel
theorem dX4_partOf_26 : decode cX4_partOf 26 = .ok (.if_icmp .eq 14, 3) := by decide +kernel
theorem dX4_partOf_29 : decode cX4_partOf 29 = .ok (.aload_n 0, 1) := by decide +kernel
theorem dX4_partOf_30 : decode cX4_partOf 30 = .ok (.iload_n 3, 1) := by decide +kernel
theorem dX4_partOf_31 : decode cX4_partOf 31 = .ok (.iconst 1, 1) := by decide +kernel
theorem dX4_partOf_32 : decode cX4_partOf 32 = .ok (.iadd, 1) := by decide +kernel
theorem dX4_partOf_33 : decode cX4_partOf 33 = .ok (.invokevirtual 124, 3) := by decide +kernel
theorem dX4_partOf_36 : decode cX4_partOf 36 = .ok (.istore_n 3, 1) := by decide +kernel
theorem dX4_partOf_37 : decode cX4_partOf 37 = .ok (.goto (-29), 3) := by decide +kernel
theorem dX4_partOf_40 : decode cX4_partOf 40 = .ok (.aload_n 0, 1) := by decide +kernel
theorem dX4_partOf_41 : decode cX4_partOf 41 = .ok (.getfield 7, 3) := by decide +kernel
theorem dX4_partOf_44 : decode cX4_partOf 44 = .ok (.iload_n 3, 1) := by decide +kernel
theorem dX4_partOf_45 : decode cX4_partOf 45 = .ok (.iaload, 1) := by decide +kernel
theorem dX4_partOf_46 : decode cX4_partOf 46 = .ok (.iload_n 2, 1) := by decide +kernel
theorem dX4_partOf_47 : decode cX4_partOf 47 = .ok (.if_icmp .ne 7, 3) := by decide +kernel
theorem dX4_partOf_50 : decode cX4_partOf 50 = .ok (.iload_n 3, 1) := by decide +kernel
theorem dX4_partOf_51 : decode cX4_partOf 51 = .ok (.goto 4, 3) := by decide +kernel
theorem dX4_partOf_54 : decode cX4_partOf 54 = .ok (.iconst (-1), 1) := by decide +kernel
theorem dX4_partOf_55 : decode cX4_partOf 55 = .ok (.ireturn, 1) := by decide +kernel
theorem dX4_remember_0 : decode cX4_remember 0 = .ok (.aload_n 0, 1) := by decide +kernel
theorem dX4_remember_1 : decode cX4_remember 1 = .ok (.getfield 127, 3) := by decide +kernel
theorem dX4_remember_4 : decode cX4_remember 4 = .ok (.ifCond .ne 4, 3) := by decide +kernel
theorem dX4_remember_7 : decode cX4_remember 7 = .ok (.return_, 1) := by decide +kernel
theorem dX4_remember_8 : decode cX4_remember 8 = .ok (.aload_n 0, 1) := by decide +kernel
theorem dX4_remember_9 : decode cX4_remember 9 = .ok (.getfield 53, 3) := by decide +kernel
theorem dX4_remember_12 : decode cX4_remember 12 = .ok (.aload_n 0, 1) := by decide +kernel
theorem dX4_remember_13 : decode cX4_remember 13 = .ok (.getfield 130, 3) := by decide +kernel
theorem dX4_remember_16 : decode cX4_remember 16 = .ok (.iload_n 1, 1) := by decide +kernel
theorem dX4_remember_17 : decode cX4_remember 17 = .ok (.iastore, 1) := by decide +kernel
theorem dX4_remember_18 : decode cX4_remember 18 = .ok (.aload_n 0, 1) := by decide +kernel
theorem dX4_remember_19 : decode cX4_remember 19 = .ok (.getfield 56, 3) := by decide +kernel
theorem dX4_remember_22 : decode cX4_remember 22 = .ok (.aload_n 0, 1) := by decide +kernel
theorem dX4_remember_23 : decode cX4_remember 23 = .ok (.getfield 130, 3) := by decide +kernel
theorem dX4_remember_26 : decode cX4_remember 26 = .ok (.iload_n 2, 1) := by decide +kernel
theorem dX4_remember_27 : decode cX4_remember 27 = .ok (.iastore, 1) := by decide +kernel
theorem dX4_remember_28 : decode cX4_remember 28 = .ok (.aload_n 0, 1) := by decide +kernel
theorem dX4_remember_29 : decode cX4_remember 29 = .ok (.getfield 59, 3) := by decide +kernel
theorem dX4_remember_32 : decode cX4_remember 32 = .ok (.aload_n 0, 1) := by decide +kernel
theorem dX4_remember_33 : decode cX4_remember 33 = .ok (.getfield 130, 3) := by decide +kernel
theorem dX4_remember_36 : decode cX4_remember 36 = .ok (.iload_n 3, 1) := by decide +kernel
theorem dX4_remember_37 : decode cX4_remember 37 = .ok (.iastore, 1) := by decide +kernel
theorem dX4_remember_38 : decode cX4_remember 38 = .ok (.iload_n 1, 1) := by decide +kernel
theorem dX4_remember_39 : decode cX4_remember 39 = .ok (.bipush 6, 2) := by decide +kernel
theorem dX4_remember_41 : decode cX4_remember 41 = .ok (.if_icmp .ne 41, 3) := by decide +kernel
theorem dX4_remember_44 : decode cX4_remember 44 = .ok (.iconst 0, 1) := by decide +kernel
theorem dX4_remember_45 : decode cX4_remember 45 = .ok (.istore 4, 2) := by decide +kernel
theorem dX4_remember_47 : decode cX4_remember 47 = .ok (.iload 4, 2) := by decide +kernel
theorem dX4_remember_49 : decode cX4_remember 49 = .ok (.bipush 16, 2) := by decide +kernel
theorem dX4_remember_51 : decode cX4_remember 51 = .ok (.if_icmp .ge 31, 3) := by decide +kernel
theorem dX4_remember_54 : decode cX4_remember 54 = .ok (.aload_n 0, 1) := by decide +kernel
theorem dX4_remember_55 : decode cX4_remember 55 = .ok (.getfield 62, 3) := by decide +kernel
theorem dX4_remember_58 : decode cX4_remember 58 = .ok (.bipush 16, 2) := by decide +kernel
theorem dX4_remember_60 : decode cX4_remember 60 = .ok (.aload_n 0, 1) := by decide +kernel
theorem dX4_remember_61 : decode cX4_remember 61 = .ok (.getfield 130, 3) := by decide +kernel
theorem dX4_remember_64 : decode cX4_remember 64 = .ok (.imul, 1) := by decide +kernel
theorem dX4_remember_65 : decode cX4_remember 65 = .ok (.iload 4, 2) := by decide +kernel
theorem dX4_remember_67 : decode cX4_remember 67 = .ok (.iadd, 1) := by decide +kernel
theorem dX4_remember_68 : decode cX4_remember 68 = .ok (.aload_n 0, 1) := by decide +kernel
theorem dX4_remember_69 : decode cX4_remember 69 = .ok (.getfield 25, 3) := by decide +kernel
theorem dX4_remember_72 : decode cX4_remember 72 = .ok (.iload 4, 2) := by decide +kernel
theorem dX4_remember_74 : decode cX4_remember 74 = .ok (.iaload, 1) := by decide +kernel
theorem dX4_remember_75 : decode cX4_remember 75 = .ok (.iastore, 1) := by decide +kernel
theorem dX4_remember_76 : decode cX4_remember 76 = .ok (.iinc 4 1, 3) := by decide +kernel
theorem dX4_remember_79 : decode cX4_remember 79 = .ok (.goto (-32), 3) := by decide +kernel
theorem dX4_remember_82 : decode cX4_remember 82 = .ok (.aload_n 0, 1) := by decide +kernel
theorem dX4_remember_83 : decode cX4_remember 83 = .ok (.dup, 1) := by decide +kernel
theorem dX4_remember_84 : decode cX4_remember 84 = .ok (.getfield 130, 3) := by decide +kernel
theorem dX4_remember_87 : decode cX4_remember 87 = .ok (.iconst 1, 1) := by decide +kernel
theorem dX4_remember_88 : decode cX4_remember 88 = .ok (.iadd, 1) := by decide +kernel
theorem dX4_remember_89 : decode cX4_remember 89 = .ok (.putfield 130, 3) := by decide +kernel
theorem dX4_remember_92 : decode cX4_remember 92 = .ok (.return_, 1) := by decide +kernel
theorem dX4_undoOne_0 : decode cX4_undoOne 0 = .ok (.aload_n 0, 1) := by decide +kernel
theorem dX4_undoOne_1 : decode cX4_undoOne 1 = .ok (.dup, 1) := by decide +kernel
theorem dX4_undoOne_2 : decode cX4_undoOne 2 = .ok (.getfield 130, 3) := by decide +kernel
theorem dX4_undoOne_5 : decode cX4_undoOne 5 = .ok (.iconst 1, 1) := by decide +kernel
theorem dX4_undoOne_6 : decode cX4_undoOne 6 = .ok (.isub, 1) := by decide +kernel
theorem dX4_undoOne_7 : decode cX4_undoOne 7 = .ok (.putfield 130, 3) := by decide +kernel
theorem dX4_undoOne_10 : decode cX4_undoOne 10 = .ok (.aload_n 0, 1) := by decide +kernel
theorem dX4_undoOne_11 : decode cX4_undoOne 11 = .ok (.getfield 56, 3) := by decide +kernel
theorem dX4_undoOne_14 : decode cX4_undoOne 14 = .ok (.aload_n 0, 1) := by decide +kernel
theorem dX4_undoOne_15 : decode cX4_undoOne 15 = .ok (.getfield 130, 3) := by decide +kernel
theorem dX4_undoOne_18 : decode cX4_undoOne 18 = .ok (.iaload, 1) := by decide +kernel
theorem dX4_undoOne_19 : decode cX4_undoOne 19 = .ok (.istore_n 1, 1) := by decide +kernel
theorem dX4_undoOne_20 : decode cX4_undoOne 20 = .ok (.aload_n 0, 1) := by decide +kernel
theorem dX4_undoOne_21 : decode cX4_undoOne 21 = .ok (.getfield 53, 3) := by decide +kernel
theorem dX4_undoOne_24 : decode cX4_undoOne 24 = .ok (.aload_n 0, 1) := by decide +kernel
theorem dX4_undoOne_25 : decode cX4_undoOne 25 = .ok (.getfield 130, 3) := by decide +kernel
theorem dX4_undoOne_28 : decode cX4_undoOne 28 = .ok (.iaload, 1) := by decide +kernel
theorem dX4_undoOne_29 : decode cX4_undoOne 29 = .ok (.istore_n 2, 1) := by decide +kernel
theorem dX4_undoOne_30 : decode cX4_undoOne 30 = .ok (.iload_n 2, 1) := by decide +kernel
theorem dX4_undoOne_31 : decode cX4_undoOne 31 = .ok (.iconst 5, 1) := by decide +kernel
theorem dX4_undoOne_32 : decode cX4_undoOne 32 = .ok (.if_icmp .ne 26, 3) := by decide +kernel
theorem dX4_undoOne_35 : decode cX4_undoOne 35 = .ok (.iload_n 1, 1) := by decide +kernel
theorem dX4_undoOne_36 : decode cX4_undoOne 36 = .ok (.ifCond .lt 11, 3) := by decide +kernel
theorem dX4_undoOne_39 : decode cX4_undoOne 39 = .ok (.iload_n 1, 1) := by decide +kernel
theorem dX4_undoOne_40 : decode cX4_undoOne 40 = .ok (.aload_n 0, 1) := by decide +kernel
theorem dX4_undoOne_41 : decode cX4_undoOne 41 = .ok (.getfield 28, 3) := by decide +kernel
theorem dX4_undoOne_44 : decode cX4_undoOne 44 = .ok (.if_icmp .lt 14, 3) := by decide +kernel
theorem dX4_undoOne_47 : decode cX4_undoOne 47 = .ok (.aload_n 0, 1) := by decide +kernel
theorem dX4_undoOne_48 : decode cX4_undoOne 48 = .ok (.dup, 1) := by decide +kernel
theorem dX4_undoOne_49 : decode cX4_undoOne 49 = .ok (.getfield 133, 3) := by decide +kernel
theorem dX4_undoOne_52 : decode cX4_undoOne 52 = .ok (.iconst 1, 1) := by decide +kernel
theorem dX4_undoOne_53 : decode cX4_undoOne 53 = .ok (.iadd, 1) := by decide +kernel
theorem dX4_undoOne_54 : decode cX4_undoOne 54 = .ok (.putfield 133, 3) := by decide +kernel
theorem dX4_undoOne_57 : decode cX4_undoOne 57 = .ok (.return_, 1) := by decide +kernel
theorem dX4_undoOne_58 : decode cX4_undoOne 58 = .ok (.aload_n 0, 1) := by decide +kernel
theorem dX4_undoOne_59 : decode cX4_undoOne 59 = .ok (.dup, 1) := by decide +kernel
theorem dX4_undoOne_60 : decode cX4_undoOne 60 = .ok (.getfield 136, 3) := by decide +kernel
theorem dX4_undoOne_63 : decode cX4_undoOne 63 = .ok (.iconst 1, 1) := by decide +kernel
theorem dX4_undoOne_64 : decode cX4_undoOne 64 = .ok (.iadd, 1) := by decide +kernel
theorem dX4_undoOne_65 : decode cX4_undoOne 65 = .ok (.putfield 136, 3) := by decide +kernel
theorem dX4_undoOne_68 : decode cX4_undoOne 68 = .ok (.iload_n 2, 1) := by decide +kernel
theorem dX4_undoOne_69 : decode cX4_undoOne 69 = .ok (.iconst 1, 1) := by decide +kernel
theorem dX4_undoOne_70 : decode cX4_undoOne 70 = .ok (.if_icmp .ne 24, 3) := by decide +kernel
theorem dX4_undoOne_73 : decode cX4_undoOne 73 = .ok (.aload_n 0, 1) := by decide +kernel
theorem dX4_undoOne_74 : decode cX4_undoOne 74 = .ok (.getfield 22, 3) := by decide +kernel
theorem dX4_undoOne_77 : decode cX4_undoOne 77 = .ok (.iload_n 1, 1) := by decide +kernel
theorem dX4_undoOne_78 : decode cX4_undoOne 78 = .ok (.dup2, 1) := by decide +kernel
theorem dX4_undoOne_79 : decode cX4_undoOne 79 = .ok (.iaload, 1) := by decide +kernel
theorem dX4_undoOne_80 : decode cX4_undoOne 80 = .ok (.aload_n 0, 1) := by decide +kernel
theorem dX4_undoOne_81 : decode cX4_undoOne 81 = .ok (.getfield 59, 3) := by decide +kernel
theorem dX4_undoOne_84 : decode cX4_undoOne 84 = .ok (.aload_n 0, 1) := by decide +kernel
theorem dX4_undoOne_85 : decode cX4_undoOne 85 = .ok (.getfield 130, 3) := by decide +kernel
theorem dX4_undoOne_88 : decode cX4_undoOne 88 = .ok (.iaload, 1) := by decide +kernel
theorem dX4_undoOne_89 : decode cX4_undoOne 89 = .ok (.isub, 1) := by decide +kernel
theorem dX4_undoOne_90 : decode cX4_undoOne 90 = .ok (.iastore, 1) := by decide +kernel
theorem dX4_undoOne_91 : decode cX4_undoOne 91 = .ok (.goto 120, 3) := by decide +kernel
theorem dX4_undoOne_94 : decode cX4_undoOne 94 = .ok (.iload_n 2, 1) := by decide +kernel
theorem dX4_undoOne_95 : decode cX4_undoOne 95 = .ok (.iconst 2, 1) := by decide +kernel
theorem dX4_undoOne_96 : decode cX4_undoOne 96 = .ok (.if_icmp .ne 21, 3) := by decide +kernel
theorem dX4_undoOne_99 : decode cX4_undoOne 99 = .ok (.aload_n 0, 1) := by decide +kernel
theorem dX4_undoOne_100 : decode cX4_undoOne 100 = .ok (.getfield 22, 3) := by decide +kernel
theorem dX4_undoOne_103 : decode cX4_undoOne 103 = .ok (.iload_n 1, 1) := by decide +kernel
theorem dX4_undoOne_104 : decode cX4_undoOne 104 = .ok (.aload_n 0, 1) := by decide +kernel
theorem dX4_undoOne_105 : decode cX4_undoOne 105 = .ok (.getfield 59, 3) := by decide +kernel
theorem dX4_undoOne_108 : decode cX4_undoOne 108 = .ok (.aload_n 0, 1) := by decide +kernel
theorem dX4_undoOne_109 : decode cX4_undoOne 109 = .ok (.getfield 130, 3) := by decide +kernel
theorem dX4_undoOne_112 : decode cX4_undoOne 112 = .ok (.iaload, 1) := by decide +kernel
theorem dX4_undoOne_113 : decode cX4_undoOne 113 = .ok (.iastore, 1) := by decide +kernel
theorem dX4_undoOne_114 : decode cX4_undoOne 114 = .ok (.goto 97, 3) := by decide +kernel
theorem dX4_undoOne_117 : decode cX4_undoOne 117 = .ok (.iload_n 2, 1) := by decide +kernel
theorem dX4_undoOne_118 : decode cX4_undoOne 118 = .ok (.iconst 5, 1) := by decide +kernel
theorem dX4_undoOne_119 : decode cX4_undoOne 119 = .ok (.if_icmp .ne 21, 3) := by decide +kernel
theorem dX4_undoOne_122 : decode cX4_undoOne 122 = .ok (.aload_n 0, 1) := by decide +kernel
theorem dX4_undoOne_123 : decode cX4_undoOne 123 = .ok (.getfield 25, 3) := by decide +kernel
theorem dX4_undoOne_126 : decode cX4_undoOne 126 = .ok (.iload_n 1, 1) := by decide +kernel
theorem dX4_undoOne_127 : decode cX4_undoOne 127 = .ok (.aload_n 0, 1) := by decide +kernel
theorem dX4_undoOne_128 : decode cX4_undoOne 128 = .ok (.getfield 59, 3) := by decide +kernel
theorem dX4_undoOne_131 : decode cX4_undoOne 131 = .ok (.aload_n 0, 1) := by decide +kernel
theorem dX4_undoOne_132 : decode cX4_undoOne 132 = .ok (.getfield 130, 3) := by decide +kernel
theorem dX4_undoOne_135 : decode cX4_undoOne 135 = .ok (.iaload, 1) := by decide +kernel
theorem dX4_undoOne_136 : decode cX4_undoOne 136 = .ok (.iastore, 1) := by decide +kernel
theorem dX4_undoOne_137 : decode cX4_undoOne 137 = .ok (.goto 74, 3) := by decide +kernel
theorem dX4_undoOne_140 : decode cX4_undoOne 140 = .ok (.iload_n 2, 1) := by decide +kernel
theorem dX4_undoOne_141 : decode cX4_undoOne 141 = .ok (.bipush 7, 2) := by decide +kernel
theorem dX4_undoOne_143 : decode cX4_undoOne 143 = .ok (.if_icmp .ne 21, 3) := by decide +kernel
theorem dX4_undoOne_146 : decode cX4_undoOne 146 = .ok (.aload_n 0, 1) := by decide +kernel
theorem dX4_undoOne_147 : decode cX4_undoOne 147 = .ok (.getfield 32, 3) := by decide +kernel
theorem dX4_undoOne_150 : decode cX4_undoOne 150 = .ok (.iload_n 1, 1) := by decide +kernel
theorem dX4_undoOne_151 : decode cX4_undoOne 151 = .ok (.aload_n 0, 1) := by decide +kernel
theorem dX4_undoOne_152 : decode cX4_undoOne 152 = .ok (.getfield 59, 3) := by decide +kernel
theorem dX4_undoOne_155 : decode cX4_undoOne 155 = .ok (.aload_n 0, 1) := by decide +kernel
theorem dX4_undoOne_156 : decode cX4_undoOne 156 = .ok (.getfield 130, 3) := by decide +kernel
theorem dX4_undoOne_159 : decode cX4_undoOne 159 = .ok (.iaload, 1) := by decide +kernel
theorem dX4_undoOne_160 : decode cX4_undoOne 160 = .ok (.iastore, 1) := by decide +kernel
theorem dX4_undoOne_161 : decode cX4_undoOne 161 = .ok (.goto 50, 3) := by decide +kernel
theorem dX4_undoOne_164 : decode cX4_undoOne 164 = .ok (.aload_n 0, 1) := by decide +kernel
theorem dX4_undoOne_165 : decode cX4_undoOne 165 = .ok (.aload_n 0, 1) := by decide +kernel
theorem dX4_undoOne_166 : decode cX4_undoOne 166 = .ok (.getfield 59, 3) := by decide +kernel
theorem dX4_undoOne_169 : decode cX4_undoOne 169 = .ok (.aload_n 0, 1) := by decide +kernel
theorem dX4_undoOne_170 : decode cX4_undoOne 170 = .ok (.getfield 130, 3) := by decide +kernel
theorem dX4_undoOne_173 : decode cX4_undoOne 173 = .ok (.iaload, 1) := by decide +kernel
theorem dX4_undoOne_174 : decode cX4_undoOne 174 = .ok (.putfield 28, 3) := by decide +kernel
theorem dX4_undoOne_177 : decode cX4_undoOne 177 = .ok (.iconst 0, 1) := by decide +kernel
theorem dX4_undoOne_178 : decode cX4_undoOne 178 = .ok (.istore_n 3, 1) := by decide +kernel
theorem dX4_undoOne_179 : decode cX4_undoOne 179 = .ok (.iload_n 3, 1) := by decide +kernel
theorem dX4_undoOne_180 : decode cX4_undoOne 180 = .ok (.bipush 16, 2) := by decide +kernel
theorem dX4_undoOne_182 : decode cX4_undoOne 182 = .ok (.if_icmp .ge 29, 3) := by decide +kernel
theorem dX4_undoOne_185 : decode cX4_undoOne 185 = .ok (.aload_n 0, 1) := by decide +kernel
theorem dX4_undoOne_186 : decode cX4_undoOne 186 = .ok (.getfield 25, 3) := by decide +kernel
theorem dX4_undoOne_189 : decode cX4_undoOne 189 = .ok (.iload_n 3, 1) := by decide +kernel
theorem dX4_undoOne_190 : decode cX4_undoOne 190 = .ok (.aload_n 0, 1) := by decide +kernel
theorem dX4_undoOne_191 : decode cX4_undoOne 191 = .ok (.getfield 62, 3) := by decide +kernel
theorem dX4_undoOne_194 : decode cX4_undoOne 194 = .ok (.bipush 16, 2) := by decide +kernel
theorem dX4_undoOne_196 : decode cX4_undoOne 196 = .ok (.aload_n 0, 1) := by decide +kernel
theorem dX4_undoOne_197 : decode cX4_undoOne 197 = .ok (.getfield 130, 3) := by decide +kernel
theorem dX4_undoOne_200 : decode cX4_undoOne 200 = .ok (.imul, 1) := by decide +kernel
theorem dX4_undoOne_201 : decode cX4_undoOne 201 = .ok (.iload_n 3, 1) := by decide +kernel
theorem dX4_undoOne_202 : decode cX4_undoOne 202 = .ok (.iadd, 1) := by decide +kernel
theorem dX4_undoOne_203 : decode cX4_undoOne 203 = .ok (.iaload, 1) := by decide +kernel
theorem dX4_undoOne_204 : decode cX4_undoOne 204 = .ok (.iastore, 1) := by decide +kernel
theorem dX4_undoOne_205 : decode cX4_undoOne 205 = .ok (.iinc 3 1, 3) := by decide +kernel
theorem dX4_undoOne_208 : decode cX4_undoOne 208 = .ok (.goto (-29), 3) := by decide +kernel
theorem dX4_undoOne_211 : decode cX4_undoOne 211 = .ok (.return_, 1) := by decide +kernel
theorem dX4_pays_0 : decode cX4_pays 0 = .ok (.aload_n 0, 1) := by decide +kernel
theorem dX4_pays_1 : decode cX4_pays 1 = .ok (.getfield 139, 3) := by decide +kernel
theorem dX4_pays_4 : decode cX4_pays 4 = .ok (.bipush 60, 2) := by decide +kernel
theorem dX4_pays_6 : decode cX4_pays 6 = .ok (.if_icmp .ne 5, 3) := by decide +kernel
theorem dX4_pays_9 : decode cX4_pays 9 = .ok (.iconst 0, 1) := by decide +kernel
theorem dX4_pays_10 : decode cX4_pays 10 = .ok (.ireturn, 1) := by decide +kernel
theorem dX4_pays_11 : decode cX4_pays 11 = .ok (.aload_n 0, 1) := by decide +kernel
theorem dX4_pays_12 : decode cX4_pays 12 = .ok (.dup, 1) := by decide +kernel
theorem dX4_pays_13 : decode cX4_pays 13 = .ok (.getfield 139, 3) := by decide +kernel
theorem dX4_pays_16 : decode cX4_pays 16 = .ok (.iconst 1, 1) := by decide +kernel
theorem dX4_pays_17 : decode cX4_pays 17 = .ok (.iadd, 1) := by decide +kernel
theorem dX4_pays_18 : decode cX4_pays 18 = .ok (.putfield 139, 3) := by decide +kernel
theorem dX4_pays_21 : decode cX4_pays 21 = .ok (.iconst 1, 1) := by decide +kernel
theorem dX4_pays_22 : decode cX4_pays 22 = .ok (.ireturn, 1) := by decide +kernel
theorem dX4_fails_0 : decode cX4_fails 0 = .ok (.aload_n 0, 1) := by decide +kernel
theorem dX4_fails_1 : decode cX4_fails 1 = .ok (.iload_n 1, 1) := by decide +kernel
theorem dX4_fails_2 : decode cX4_fails 2 = .ok (.putfield 142, 3) := by decide +kernel
theorem dX4_fails_5 : decode cX4_fails 5 = .ok (.iconst 1, 1) := by decide +kernel
theorem dX4_fails_6 : decode cX4_fails 6 = .ok (.ireturn, 1) := by decide +kernel
theorem dX4_note_0 : decode cX4_note 0 = .ok (.aload_n 0, 1) := by decide +kernel
theorem dX4_note_1 : decode cX4_note 1 = .ok (.getfield 145, 3) := by decide +kernel
theorem dX4_note_4 : decode cX4_note 4 = .ok (.bipush 100, 2) := by decide +kernel
theorem dX4_note_6 : decode cX4_note 6 = .ok (.if_icmp .ne 4, 3) := by decide +kernel
theorem dX4_note_9 : decode cX4_note 9 = .ok (.return_, 1) := by decide +kernel
theorem dX4_note_10 : decode cX4_note 10 = .ok (.aload_n 0, 1) := by decide +kernel
theorem dX4_note_11 : decode cX4_note 11 = .ok (.getfield 50, 3) := by decide +kernel
theorem dX4_note_14 : decode cX4_note 14 = .ok (.aload_n 0, 1) := by decide +kernel
theorem dX4_note_15 : decode cX4_note 15 = .ok (.getfield 145, 3) := by decide +kernel
theorem dX4_note_18 : decode cX4_note 18 = .ok (.iload_n 1, 1) := by decide +kernel
theorem dX4_note_19 : decode cX4_note 19 = .ok (.iastore, 1) := by decide +kernel
theorem dX4_note_20 : decode cX4_note 20 = .ok (.aload_n 0, 1) := by decide +kernel
theorem dX4_note_21 : decode cX4_note 21 = .ok (.dup, 1) := by decide +kernel
theorem dX4_note_22 : decode cX4_note 22 = .ok (.getfield 145, 3) := by decide +kernel
theorem dX4_note_25 : decode cX4_note 25 = .ok (.iconst 1, 1) := by decide +kernel
theorem dX4_note_26 : decode cX4_note 26 = .ok (.iadd, 1) := by decide +kernel
theorem dX4_note_27 : decode cX4_note 27 = .ok (.putfield 145, 3) := by decide +kernel
theorem dX4_note_30 : decode cX4_note 30 = .ok (.return_, 1) := by decide +kernel
theorem dX4_plain_0 : decode cX4_plain 0 = .ok (.iload_n 1, 1) := by decide +kernel
theorem dX4_plain_1 : decode cX4_plain 1 = .ok (.tableswitch 328 0 23 #[111, 123, 142, 163, 211, 211, 219, 230, 264, 275, 328, 328, 328, 328, 328, 328, 328, 281, 286, 292, 328, 328, 328, 304], 111) := by decide +kernel
theorem dX4_plain_112 : decode cX4_plain 112 = .ok (.aload_n 0, 1) := by decide +kernel
theorem dX4_plain_113 : decode cX4_plain 113 = .ok (.aload_n 0, 1) := by decide +kernel
theorem dX4_plain_114 : decode cX4_plain 114 = .ok (.getfield 22, 3) := by decide +kernel
theorem dX4_plain_117 : decode cX4_plain 117 = .ok (.iload_n 2, 1) := by decide +kernel
theorem dX4_plain_118 : decode cX4_plain 118 = .ok (.iaload, 1) := by decide +kernel
theorem dX4_plain_119 : decode cX4_plain 119 = .ok (.invokevirtual 148, 3) := by decide +kernel
theorem dX4_plain_122 : decode cX4_plain 122 = .ok (.iconst 0, 1) := by decide +kernel
theorem dX4_plain_123 : decode cX4_plain 123 = .ok (.ireturn, 1) := by decide +kernel
theorem dX4_plain_124 : decode cX4_plain 124 = .ok (.aload_n 0, 1) := by decide +kernel
theorem dX4_plain_125 : decode cX4_plain 125 = .ok (.getfield 22, 3) := by decide +kernel
theorem dX4_plain_128 : decode cX4_plain 128 = .ok (.iload_n 2, 1) := by decide +kernel
theorem dX4_plain_129 : decode cX4_plain 129 = .ok (.dup2, 1) := by decide +kernel
theorem dX4_plain_130 : decode cX4_plain 130 = .ok (.iaload, 1) := by decide +kernel
theorem dX4_plain_131 : decode cX4_plain 131 = .ok (.iload_n 3, 1) := by decide +kernel
theorem dX4_plain_132 : decode cX4_plain 132 = .ok (.iadd, 1) := by decide +kernel
theorem dX4_plain_133 : decode cX4_plain 133 = .ok (.iastore, 1) := by decide +kernel
theorem dX4_plain_134 : decode cX4_plain 134 = .ok (.aload_n 0, 1) := by decide +kernel
theorem dX4_plain_135 : decode cX4_plain 135 = .ok (.iconst 1, 1) := by decide +kernel
theorem dX4_plain_136 : decode cX4_plain 136 = .ok (.iload_n 2, 1) := by decide +kernel
theorem dX4_plain_137 : decode cX4_plain 137 = .ok (.iload_n 3, 1) := by decide +kernel
theorem dX4_plain_138 : decode cX4_plain 138 = .ok (.invokevirtual 151, 3) := by decide +kernel
theorem dX4_plain_141 : decode cX4_plain 141 = .ok (.iconst 0, 1) := by decide +kernel
theorem dX4_plain_142 : decode cX4_plain 142 = .ok (.ireturn, 1) := by decide +kernel
theorem dX4_plain_143 : decode cX4_plain 143 = .ok (.aload_n 0, 1) := by decide +kernel
theorem dX4_plain_144 : decode cX4_plain 144 = .ok (.iconst 2, 1) := by decide +kernel
theorem dX4_plain_145 : decode cX4_plain 145 = .ok (.iload_n 2, 1) := by decide +kernel
theorem dX4_plain_146 : decode cX4_plain 146 = .ok (.aload_n 0, 1) := by decide +kernel
theorem dX4_plain_147 : decode cX4_plain 147 = .ok (.getfield 22, 3) := by decide +kernel
theorem dX4_plain_150 : decode cX4_plain 150 = .ok (.iload_n 2, 1) := by decide +kernel
theorem dX4_plain_151 : decode cX4_plain 151 = .ok (.iaload, 1) := by decide +kernel
theorem dX4_plain_152 : decode cX4_plain 152 = .ok (.invokevirtual 151, 3) := by decide +kernel
theorem dX4_plain_155 : decode cX4_plain 155 = .ok (.aload_n 0, 1) := by decide +kernel
theorem dX4_plain_156 : decode cX4_plain 156 = .ok (.getfield 22, 3) := by decide +kernel
theorem dX4_plain_159 : decode cX4_plain 159 = .ok (.iload_n 2, 1) := by decide +kernel
theorem dX4_plain_160 : decode cX4_plain 160 = .ok (.iload_n 3, 1) := by decide +kernel
theorem dX4_plain_161 : decode cX4_plain 161 = .ok (.iastore, 1) := by decide +kernel
theorem dX4_plain_162 : decode cX4_plain 162 = .ok (.iconst 0, 1) := by decide +kernel
theorem dX4_plain_163 : decode cX4_plain 163 = .ok (.ireturn, 1) := by decide +kernel
theorem dX4_plain_164 : decode cX4_plain 164 = .ok (.aload_n 0, 1) := by decide +kernel
theorem dX4_plain_165 : decode cX4_plain 165 = .ok (.getfield 22, 3) := by decide +kernel
theorem dX4_plain_168 : decode cX4_plain 168 = .ok (.iload_n 3, 1) := by decide +kernel
theorem dX4_plain_169 : decode cX4_plain 169 = .ok (.iaload, 1) := by decide +kernel
theorem dX4_plain_170 : decode cX4_plain 170 = .ok (.ifCond .ne 9, 3) := by decide +kernel
theorem dX4_plain_173 : decode cX4_plain 173 = .ok (.aload_n 0, 1) := by decide +kernel
theorem dX4_plain_174 : decode cX4_plain 174 = .ok (.iconst 1, 1) := by decide +kernel
theorem dX4_plain_175 : decode cX4_plain 175 = .ok (.invokevirtual 155, 3) := by decide +kernel
theorem dX4_plain_178 : decode cX4_plain 178 = .ok (.ireturn, 1) := by decide +kernel
theorem dX4_plain_179 : decode cX4_plain 179 = .ok (.aload_n 0, 1) := by decide +kernel
theorem dX4_plain_180 : decode cX4_plain 180 = .ok (.iconst 2, 1) := by decide +kernel
theorem dX4_plain_181 : decode cX4_plain 181 = .ok (.iload_n 2, 1) := by decide +kernel
theorem dX4_plain_182 : decode cX4_plain 182 = .ok (.aload_n 0, 1) := by decide +kernel
theorem dX4_plain_183 : decode cX4_plain 183 = .ok (.getfield 22, 3) := by decide +kernel
theorem dX4_plain_186 : decode cX4_plain 186 = .ok (.iload_n 2, 1) := by decide +kernel
theorem dX4_plain_187 : decode cX4_plain 187 = .ok (.iaload, 1) := by decide +kernel
theorem dX4_plain_188 : decode cX4_plain 188 = .ok (.invokevirtual 151, 3) := by decide +kernel
theorem dX4_plain_191 : decode cX4_plain 191 = .ok (.aload_n 0, 1) := by decide +kernel
theorem dX4_plain_192 : decode cX4_plain 192 = .ok (.getfield 22, 3) := by decide +kernel
theorem dX4_plain_195 : decode cX4_plain 195 = .ok (.iload_n 2, 1) := by decide +kernel
theorem dX4_plain_196 : decode cX4_plain 196 = .ok (.aload_n 0, 1) := by decide +kernel
theorem dX4_plain_197 : decode cX4_plain 197 = .ok (.getfield 22, 3) := by decide +kernel
theorem dX4_plain_200 : decode cX4_plain 200 = .ok (.iload_n 2, 1) := by decide +kernel
theorem dX4_plain_201 : decode cX4_plain 201 = .ok (.iaload, 1) := by decide +kernel
theorem dX4_plain_202 : decode cX4_plain 202 = .ok (.aload_n 0, 1) := by decide +kernel
theorem dX4_plain_203 : decode cX4_plain 203 = .ok (.getfield 22, 3) := by decide +kernel
theorem dX4_plain_206 : decode cX4_plain 206 = .ok (.iload_n 3, 1) := by decide +kernel
theorem dX4_plain_207 : decode cX4_plain 207 = .ok (.iaload, 1) := by decide +kernel
theorem dX4_plain_208 : decode cX4_plain 208 = .ok (.idiv, 1) := by decide +kernel
theorem dX4_plain_209 : decode cX4_plain 209 = .ok (.iastore, 1) := by decide +kernel
theorem dX4_plain_210 : decode cX4_plain 210 = .ok (.iconst 0, 1) := by decide +kernel
theorem dX4_plain_211 : decode cX4_plain 211 = .ok (.ireturn, 1) := by decide +kernel
theorem dX4_plain_212 : decode cX4_plain 212 = .ok (.aload_n 0, 1) := by decide +kernel
theorem dX4_plain_213 : decode cX4_plain 213 = .ok (.iload_n 1, 1) := by decide +kernel
theorem dX4_plain_214 : decode cX4_plain 214 = .ok (.iload_n 2, 1) := by decide +kernel
theorem dX4_plain_215 : decode cX4_plain 215 = .ok (.iload_n 3, 1) := by decide +kernel
theorem dX4_plain_216 : decode cX4_plain 216 = .ok (.invokevirtual 158, 3) := by decide +kernel
theorem dX4_plain_219 : decode cX4_plain 219 = .ok (.ireturn, 1) := by decide +kernel
theorem dX4_plain_220 : decode cX4_plain 220 = .ok (.aload_n 0, 1) := by decide +kernel
theorem dX4_plain_221 : decode cX4_plain 221 = .ok (.aload_n 0, 1) := by decide +kernel
theorem dX4_plain_222 : decode cX4_plain 222 = .ok (.getfield 22, 3) := by decide +kernel
theorem dX4_plain_225 : decode cX4_plain 225 = .ok (.iload_n 2, 1) := by decide +kernel
theorem dX4_plain_226 : decode cX4_plain 226 = .ok (.iaload, 1) := by decide +kernel
theorem dX4_plain_227 : decode cX4_plain 227 = .ok (.invokevirtual 162, 3) := by decide +kernel
theorem dX4_plain_230 : decode cX4_plain 230 = .ok (.ireturn, 1) := by decide +kernel
theorem dX4_plain_231 : decode cX4_plain 231 = .ok (.aload_n 0, 1) := by decide +kernel
theorem dX4_plain_232 : decode cX4_plain 232 = .ok (.bipush 7, 2) := by decide +kernel
theorem dX4_plain_234 : decode cX4_plain 234 = .ok (.iload_n 2, 1) := by decide +kernel
theorem dX4_plain_235 : decode cX4_plain 235 = .ok (.aload_n 0, 1) := by decide +kernel
theorem dX4_plain_236 : decode cX4_plain 236 = .ok (.getfield 32, 3) := by decide +kernel
theorem dX4_plain_239 : decode cX4_plain 239 = .ok (.iload_n 2, 1) := by decide +kernel
theorem dX4_plain_240 : decode cX4_plain 240 = .ok (.iaload, 1) := by decide +kernel
theorem dX4_plain_241 : decode cX4_plain 241 = .ok (.invokevirtual 151, 3) := by decide +kernel
theorem dX4_plain_244 : decode cX4_plain 244 = .ok (.aload_n 0, 1) := by decide +kernel
theorem dX4_plain_245 : decode cX4_plain 245 = .ok (.getfield 32, 3) := by decide +kernel
theorem dX4_plain_248 : decode cX4_plain 248 = .ok (.iload_n 2, 1) := by decide +kernel
theorem dX4_plain_249 : decode cX4_plain 249 = .ok (.iload_n 3, 1) := by decide +kernel
theorem dX4_plain_250 : decode cX4_plain 250 = .ok (.ifCond .ne 7, 3) := by decide +kernel
theorem dX4_plain_253 : decode cX4_plain 253 = .ok (.iconst 0, 1) := by decide +kernel
theorem dX4_plain_254 : decode cX4_plain 254 = .ok (.goto 8, 3) := by decide +kernel
theorem dX4_plain_257 : decode cX4_plain 257 = .ok (.aload_n 0, 1) := by decide +kernel
theorem dX4_plain_258 : decode cX4_plain 258 = .ok (.iload_n 3, 1) := by decide +kernel
theorem dX4_plain_259 : decode cX4_plain 259 = .ok (.invokevirtual 165, 3) := by decide +kernel
theorem dX4_plain_262 : decode cX4_plain 262 = .ok (.iastore, 1) := by decide +kernel
theorem dX4_plain_263 : decode cX4_plain 263 = .ok (.iconst 0, 1) := by decide +kernel
theorem dX4_plain_264 : decode cX4_plain 264 = .ok (.ireturn, 1) := by decide +kernel
theorem dX4_plain_265 : decode cX4_plain 265 = .ok (.aload_n 0, 1) := by decide +kernel
theorem dX4_plain_266 : decode cX4_plain 266 = .ok (.aload_n 0, 1) := by decide +kernel
theorem dX4_plain_267 : decode cX4_plain 267 = .ok (.getfield 32, 3) := by decide +kernel
theorem dX4_plain_270 : decode cX4_plain 270 = .ok (.iload_n 2, 1) := by decide +kernel
theorem dX4_plain_271 : decode cX4_plain 271 = .ok (.iaload, 1) := by decide +kernel
theorem dX4_plain_272 : decode cX4_plain 272 = .ok (.invokevirtual 168, 3) := by decide +kernel
theorem dX4_plain_275 : decode cX4_plain 275 = .ok (.ireturn, 1) := by decide +kernel
theorem dX4_plain_276 : decode cX4_plain 276 = .ok (.aload_n 0, 1) := by decide +kernel
theorem dX4_plain_277 : decode cX4_plain 277 = .ok (.iload_n 3, 1) := by decide +kernel
theorem dX4_plain_278 : decode cX4_plain 278 = .ok (.invokevirtual 155, 3) := by decide +kernel
theorem dX4_plain_281 : decode cX4_plain 281 = .ok (.ireturn, 1) := by decide +kernel
theorem dX4_plain_282 : decode cX4_plain 282 = .ok (.bipush 100, 2) := by decide +kernel
theorem dX4_plain_284 : decode cX4_plain 284 = .ok (.iload_n 3, 1) := by decide +kernel
theorem dX4_plain_285 : decode cX4_plain 285 = .ok (.iadd, 1) := by decide +kernel
theorem dX4_plain_286 : decode cX4_plain 286 = .ok (.ireturn, 1) := by decide +kernel
theorem dX4_plain_287 : decode cX4_plain 287 = .ok (.sipush 200, 3) := by decide +kernel
theorem dX4_plain_290 : decode cX4_plain 290 = .ok (.iload_n 3, 1) := by decide +kernel
theorem dX4_plain_291 : decode cX4_plain 291 = .ok (.iadd, 1) := by decide +kernel
theorem dX4_plain_292 : decode cX4_plain 292 = .ok (.ireturn, 1) := by decide +kernel
theorem dX4_plain_293 : decode cX4_plain 293 = .ok (.aload_n 0, 1) := by decide +kernel
theorem dX4_plain_294 : decode cX4_plain 294 = .ok (.aload_n 0, 1) := by decide +kernel
theorem dX4_plain_295 : decode cX4_plain 295 = .ok (.getfield 22, 3) := by decide +kernel
theorem dX4_plain_298 : decode cX4_plain 298 = .ok (.iload_n 2, 1) := by decide +kernel
theorem dX4_plain_299 : decode cX4_plain 299 = .ok (.iaload, 1) := by decide +kernel
theorem dX4_plain_300 : decode cX4_plain 300 = .ok (.putfield 171, 3) := by decide +kernel
theorem dX4_plain_303 : decode cX4_plain 303 = .ok (.iconst 2, 1) := by decide +kernel
theorem dX4_plain_304 : decode cX4_plain 304 = .ok (.ireturn, 1) := by decide +kernel
theorem dX4_plain_305 : decode cX4_plain 305 = .ok (.aload_n 0, 1) := by decide +kernel
theorem dX4_plain_306 : decode cX4_plain 306 = .ok (.getfield 127, 3) := by decide +kernel
theorem dX4_plain_309 : decode cX4_plain 309 = .ok (.ifCond .le 18, 3) := by decide +kernel
theorem dX4_plain_312 : decode cX4_plain 312 = .ok (.aload_n 0, 1) := by decide +kernel
theorem dX4_plain_313 : decode cX4_plain 313 = .ok (.aload_n 0, 1) := by decide +kernel
theorem dX4_plain_314 : decode cX4_plain 314 = .ok (.getfield 65, 3) := by decide +kernel
theorem dX4_plain_317 : decode cX4_plain 317 = .ok (.aload_n 0, 1) := by decide +kernel
theorem dX4_plain_318 : decode cX4_plain 318 = .ok (.getfield 127, 3) := by decide +kernel
theorem dX4_plain_321 : decode cX4_plain 321 = .ok (.iconst 1, 1) := by decide +kernel
theorem dX4_plain_322 : decode cX4_plain 322 = .ok (.isub, 1) := by decide +kernel
theorem dX4_plain_323 : decode cX4_plain 323 = .ok (.iaload, 1) := by decide +kernel
theorem dX4_plain_324 : decode cX4_plain 324 = .ok (.putfield 130, 3) := by decide +kernel
theorem dX4_plain_327 : decode cX4_plain 327 = .ok (.iconst 0, 1) := by decide +kernel
theorem dX4_plain_328 : decode cX4_plain 328 = .ok (.ireturn, 1) := by decide +kernel
theorem dX4_plain_329 : decode cX4_plain 329 = .ok (.iconst 0, 1) := by decide +kernel
theorem dX4_plain_330 : decode cX4_plain 330 = .ok (.ireturn, 1) := by decide +kernel
theorem dX4_makes_0 : decode cX4_makes 0 = .ok (.iload_n 1, 1) := by decide +kernel
theorem dX4_makes_1 : decode cX4_makes 1 = .ok (.ifCond .ge 9, 3) := by decide +kernel
theorem dX4_makes_4 : decode cX4_makes 4 = .ok (.aload_n 0, 1) := by decide +kernel
theorem dX4_makes_5 : decode cX4_makes 5 = .ok (.iconst 3, 1) := by decide +kernel
theorem dX4_makes_6 : decode cX4_makes 6 = .ok (.invokevirtual 155, 3) := by decide +kernel
theorem dX4_makes_9 : decode cX4_makes 9 = .ok (.ireturn, 1) := by decide +kernel
theorem dX4_makes_10 : decode cX4_makes 10 = .ok (.iload_n 1, 1) := by decide +kernel
theorem dX4_makes_11 : decode cX4_makes 11 = .ok (.bipush 16, 2) := by decide +kernel
theorem dX4_makes_13 : decode cX4_makes 13 = .ok (.if_icmp .le 9, 3) := by decide +kernel
theorem dX4_makes_16 : decode cX4_makes 16 = .ok (.aload_n 0, 1) := by decide +kernel
theorem dX4_makes_17 : decode cX4_makes 17 = .ok (.iconst 4, 1) := by decide +kernel
theorem dX4_makes_18 : decode cX4_makes 18 = .ok (.invokevirtual 155, 3) := by decide +kernel
theorem dX4_makes_21 : decode cX4_makes 21 = .ok (.ireturn, 1) := by decide +kernel
theorem dX4_makes_22 : decode cX4_makes 22 = .ok (.aload_n 0, 1) := by decide +kernel
theorem dX4_makes_23 : decode cX4_makes 23 = .ok (.bipush 6, 2) := by decide +kernel
theorem dX4_makes_25 : decode cX4_makes 25 = .ok (.iconst 0, 1) := by decide +kernel
theorem dX4_makes_26 : decode cX4_makes 26 = .ok (.aload_n 0, 1) := by decide +kernel
theorem dX4_makes_27 : decode cX4_makes 27 = .ok (.getfield 28, 3) := by decide +kernel
theorem dX4_makes_30 : decode cX4_makes 30 = .ok (.invokevirtual 151, 3) := by decide +kernel
theorem dX4_makes_33 : decode cX4_makes 33 = .ok (.aload_n 0, 1) := by decide +kernel
theorem dX4_makes_34 : decode cX4_makes 34 = .ok (.iload_n 1, 1) := by decide +kernel
theorem dX4_makes_35 : decode cX4_makes 35 = .ok (.putfield 28, 3) := by decide +kernel
theorem dX4_makes_38 : decode cX4_makes 38 = .ok (.iconst 0, 1) := by decide +kernel
theorem dX4_makes_39 : decode cX4_makes 39 = .ok (.istore_n 2, 1) := by decide +kernel
theorem dX4_makes_40 : decode cX4_makes 40 = .ok (.iload_n 2, 1) := by decide +kernel
theorem dX4_makes_41 : decode cX4_makes 41 = .ok (.bipush 16, 2) := by decide +kernel
theorem dX4_makes_43 : decode cX4_makes 43 = .ok (.if_icmp .ge 16, 3) := by decide +kernel
theorem dX4_makes_46 : decode cX4_makes 46 = .ok (.aload_n 0, 1) := by decide +kernel
theorem dX4_makes_47 : decode cX4_makes 47 = .ok (.getfield 25, 3) := by decide +kernel
theorem dX4_makes_50 : decode cX4_makes 50 = .ok (.iload_n 2, 1) := by decide +kernel
theorem dX4_makes_51 : decode cX4_makes 51 = .ok (.iconst 0, 1) := by decide +kernel
theorem dX4_makes_52 : decode cX4_makes 52 = .ok (.iastore, 1) := by decide +kernel
theorem dX4_makes_53 : decode cX4_makes 53 = .ok (.iinc 2 1, 3) := by decide +kernel
theorem dX4_makes_56 : decode cX4_makes 56 = .ok (.goto (-16), 3) := by decide +kernel
theorem dX4_makes_59 : decode cX4_makes 59 = .ok (.iconst 0, 1) := by decide +kernel
theorem dX4_makes_60 : decode cX4_makes 60 = .ok (.ireturn, 1) := by decide +kernel
theorem dX4_onRow_0 : decode cX4_onRow 0 = .ok (.aload_n 0, 1) := by decide +kernel
theorem dX4_onRow_1 : decode cX4_onRow 1 = .ok (.getfield 22, 3) := by decide +kernel
theorem dX4_onRow_4 : decode cX4_onRow 4 = .ok (.iload_n 1, 1) := by decide +kernel
theorem dX4_onRow_5 : decode cX4_onRow 5 = .ok (.iconst 4, 1) := by decide +kernel
theorem dX4_onRow_6 : decode cX4_onRow 6 = .ok (.if_icmp .ne 7, 3) := by decide +kernel
theorem dX4_onRow_9 : decode cX4_onRow 9 = .ok (.iload_n 3, 1) := by decide +kernel
theorem dX4_onRow_10 : decode cX4_onRow 10 = .ok (.goto 4, 3) := by decide +kernel
theorem dX4_onRow_13 : decode cX4_onRow 13 = .ok (.iload_n 2, 1) := by decide +kernel
theorem dX4_onRow_14 : decode cX4_onRow 14 = .ok (.iaload, 1) := by decide +kernel
theorem dX4_onRow_15 : decode cX4_onRow 15 = .ok (.istore 4, 2) := by decide +kernel
theorem dX4_onRow_17 : decode cX4_onRow 17 = .ok (.iload 4, 2) := by decide +kernel
theorem dX4_onRow_19 : decode cX4_onRow 19 = .ok (.ifCond .lt 12, 3) := by decide +kernel
theorem dX4_onRow_22 : decode cX4_onRow 22 = .ok (.iload 4, 2) := by decide +kernel
theorem dX4_onRow_24 : decode cX4_onRow 24 = .ok (.aload_n 0, 1) := by decide +kernel
theorem dX4_onRow_25 : decode cX4_onRow 25 = .ok (.getfield 28, 3) := by decide +kernel
theorem dX4_onRow_28 : decode cX4_onRow 28 = .ok (.if_icmp .lt 9, 3) := by decide +kernel
theorem dX4_onRow_31 : decode cX4_onRow 31 = .ok (.aload_n 0, 1) := by decide +kernel
theorem dX4_onRow_32 : decode cX4_onRow 32 = .ok (.iconst 2, 1) := by decide +kernel
theorem dX4_onRow_33 : decode cX4_onRow 33 = .ok (.invokevirtual 155, 3) := by decide +kernel
theorem dX4_onRow_36 : decode cX4_onRow 36 = .ok (.ireturn, 1) := by decide +kernel
theorem dX4_onRow_37 : decode cX4_onRow 37 = .ok (.iload_n 1, 1) := by decide +kernel
theorem dX4_onRow_38 : decode cX4_onRow 38 = .ok (.iconst 4, 1) := by decide +kernel
theorem dX4_onRow_39 : decode cX4_onRow 39 = .ok (.if_icmp .ne 18, 3) := by decide +kernel
theorem dX4_onRow_42 : decode cX4_onRow 42 = .ok (.aload_n 0, 1) := by decide +kernel
theorem dX4_onRow_43 : decode cX4_onRow 43 = .ok (.getfield 22, 3) := by decide +kernel
theorem dX4_onRow_46 : decode cX4_onRow 46 = .ok (.iload_n 2, 1) := by decide +kernel
theorem dX4_onRow_47 : decode cX4_onRow 47 = .ok (.aload_n 0, 1) := by decide +kernel
theorem dX4_onRow_48 : decode cX4_onRow 48 = .ok (.getfield 25, 3) := by decide +kernel
theorem dX4_onRow_51 : decode cX4_onRow 51 = .ok (.iload 4, 2) := by decide +kernel
theorem dX4_onRow_53 : decode cX4_onRow 53 = .ok (.iaload, 1) := by decide +kernel
theorem dX4_onRow_54 : decode cX4_onRow 54 = .ok (.iastore, 1) := by decide +kernel
theorem dX4_onRow_55 : decode cX4_onRow 55 = .ok (.iconst 0, 1) := by decide +kernel
theorem dX4_onRow_56 : decode cX4_onRow 56 = .ok (.ireturn, 1) := by decide +kernel
theorem dX4_onRow_57 : decode cX4_onRow 57 = .ok (.aload_n 0, 1) := by decide +kernel
theorem dX4_onRow_58 : decode cX4_onRow 58 = .ok (.iconst 5, 1) := by decide +kernel
theorem dX4_onRow_59 : decode cX4_onRow 59 = .ok (.iload 4, 2) := by decide +kernel
theorem dX4_onRow_61 : decode cX4_onRow 61 = .ok (.aload_n 0, 1) := by decide +kernel
theorem dX4_onRow_62 : decode cX4_onRow 62 = .ok (.getfield 25, 3) := by decide +kernel
theorem dX4_onRow_65 : decode cX4_onRow 65 = .ok (.iload 4, 2) := by decide +kernel
theorem dX4_onRow_67 : decode cX4_onRow 67 = .ok (.iaload, 1) := by decide +kernel
theorem dX4_onRow_68 : decode cX4_onRow 68 = .ok (.invokevirtual 151, 3) := by decide +kernel
theorem dX4_onRow_71 : decode cX4_onRow 71 = .ok (.aload_n 0, 1) := by decide +kernel
theorem dX4_onRow_72 : decode cX4_onRow 72 = .ok (.getfield 25, 3) := by decide +kernel
theorem dX4_onRow_75 : decode cX4_onRow 75 = .ok (.iload 4, 2) := by decide +kernel
theorem dX4_onRow_77 : decode cX4_onRow 77 = .ok (.aload_n 0, 1) := by decide +kernel
theorem dX4_onRow_78 : decode cX4_onRow 78 = .ok (.getfield 22, 3) := by decide +kernel
theorem dX4_onRow_81 : decode cX4_onRow 81 = .ok (.iload_n 3, 1) := by decide +kernel
theorem dX4_onRow_82 : decode cX4_onRow 82 = .ok (.iaload, 1) := by decide +kernel
theorem dX4_onRow_83 : decode cX4_onRow 83 = .ok (.iastore, 1) := by decide +kernel
theorem dX4_onRow_84 : decode cX4_onRow 84 = .ok (.iconst 0, 1) := by decide +kernel
theorem dX4_onRow_85 : decode cX4_onRow 85 = .ok (.ireturn, 1) := by decide +kernel
theorem dX4_uses_0 : decode cX4_uses 0 = .ok (.iload_n 1, 1) := by decide +kernel
theorem dX4_uses_1 : decode cX4_uses 1 = .ok (.ifCond .ne 9, 3) := by decide +kernel
theorem dX4_uses_4 : decode cX4_uses 4 = .ok (.aload_n 0, 1) := by decide +kernel
theorem dX4_uses_5 : decode cX4_uses 5 = .ok (.iconst 5, 1) := by decide +kernel
theorem dX4_uses_6 : decode cX4_uses 6 = .ok (.invokevirtual 155, 3) := by decide +kernel
theorem dX4_uses_9 : decode cX4_uses 9 = .ok (.ireturn, 1) := by decide +kernel
theorem dX4_uses_10 : decode cX4_uses 10 = .ok (.aload_n 0, 1) := by decide +kernel
theorem dX4_uses_11 : decode cX4_uses 11 = .ok (.getfield 35, 3) := by decide +kernel
theorem dX4_uses_14 : decode cX4_uses 14 = .ok (.iload_n 1, 1) := by decide +kernel
theorem dX4_uses_15 : decode cX4_uses 15 = .ok (.iaload, 1) := by decide +kernel
theorem dX4_uses_16 : decode cX4_uses 16 = .ok (.iconst 2, 1) := by decide +kernel
theorem dX4_uses_17 : decode cX4_uses 17 = .ok (.if_icmp .ne 10, 3) := by decide +kernel
theorem dX4_uses_20 : decode cX4_uses 20 = .ok (.aload_n 0, 1) := by decide +kernel
theorem dX4_uses_21 : decode cX4_uses 21 = .ok (.bipush 6, 2) := by decide +kernel
theorem dX4_uses_23 : decode cX4_uses 23 = .ok (.invokevirtual 155, 3) := by decide +kernel
theorem dX4_uses_26 : decode cX4_uses 26 = .ok (.ireturn, 1) := by decide +kernel
theorem dX4_uses_27 : decode cX4_uses 27 = .ok (.aload_n 0, 1) := by decide +kernel
theorem dX4_uses_28 : decode cX4_uses 28 = .ok (.getfield 38, 3) := by decide +kernel
theorem dX4_uses_31 : decode cX4_uses 31 = .ok (.iload_n 1, 1) := by decide +kernel
theorem dX4_uses_32 : decode cX4_uses 32 = .ok (.dup2, 1) := by decide +kernel
theorem dX4_uses_33 : decode cX4_uses 33 = .ok (.iaload, 1) := by decide +kernel
theorem dX4_uses_34 : decode cX4_uses 34 = .ok (.iconst 1, 1) := by decide +kernel
theorem dX4_uses_35 : decode cX4_uses 35 = .ok (.iadd, 1) := by decide +kernel
theorem dX4_uses_36 : decode cX4_uses 36 = .ok (.iastore, 1) := by decide +kernel
theorem dX4_uses_37 : decode cX4_uses 37 = .ok (.aload_n 0, 1) := by decide +kernel
theorem dX4_uses_38 : decode cX4_uses 38 = .ok (.aload_n 0, 1) := by decide +kernel
theorem dX4_uses_39 : decode cX4_uses 39 = .ok (.getfield 38, 3) := by decide +kernel
theorem dX4_uses_42 : decode cX4_uses 42 = .ok (.iload_n 1, 1) := by decide +kernel
theorem dX4_uses_43 : decode cX4_uses 43 = .ok (.iaload, 1) := by decide +kernel
theorem dX4_uses_44 : decode cX4_uses 44 = .ok (.invokevirtual 148, 3) := by decide +kernel
theorem dX4_uses_47 : decode cX4_uses 47 = .ok (.iconst 0, 1) := by decide +kernel
theorem dX4_uses_48 : decode cX4_uses 48 = .ok (.ireturn, 1) := by decide +kernel
theorem dX4_box_0 : decode cX4_box 0 = .ok (.aload_n 0, 1) := by decide +kernel
theorem dX4_box_1 : decode cX4_box 1 = .ok (.getfield 35, 3) := by decide +kernel
theorem dX4_box_4 : decode cX4_box 4 = .ok (.aload_n 0, 1) := by decide +kernel
theorem dX4_box_5 : decode cX4_box 5 = .ok (.getfield 47, 3) := by decide +kernel
theorem dX4_box_8 : decode cX4_box 8 = .ok (.iload_n 1, 1) := by decide +kernel
theorem dX4_box_9 : decode cX4_box 9 = .ok (.iastore, 1) := by decide +kernel
theorem dX4_box_10 : decode cX4_box 10 = .ok (.aload_n 0, 1) := by decide +kernel
theorem dX4_box_11 : decode cX4_box 11 = .ok (.getfield 38, 3) := by decide +kernel
theorem dX4_box_14 : decode cX4_box 14 = .ok (.aload_n 0, 1) := by decide +kernel
theorem dX4_box_15 : decode cX4_box 15 = .ok (.getfield 47, 3) := by decide +kernel
theorem dX4_box_18 : decode cX4_box 18 = .ok (.iconst 0, 1) := by decide +kernel
theorem dX4_box_19 : decode cX4_box 19 = .ok (.iastore, 1) := by decide +kernel
theorem dX4_box_20 : decode cX4_box 20 = .ok (.aload_n 0, 1) := by decide +kernel
theorem dX4_box_21 : decode cX4_box 21 = .ok (.dup, 1) := by decide +kernel
theorem dX4_box_22 : decode cX4_box 22 = .ok (.getfield 47, 3) := by decide +kernel
theorem dX4_box_25 : decode cX4_box 25 = .ok (.iconst 1, 1) := by decide +kernel
theorem dX4_box_26 : decode cX4_box 26 = .ok (.iadd, 1) := by decide +kernel
theorem dX4_box_27 : decode cX4_box 27 = .ok (.putfield 47, 3) := by decide +kernel
theorem dX4_box_30 : decode cX4_box 30 = .ok (.aload_n 0, 1) := by decide +kernel
theorem dX4_box_31 : decode cX4_box 31 = .ok (.getfield 47, 3) := by decide +kernel
theorem dX4_box_34 : decode cX4_box 34 = .ok (.iconst 1, 1) := by decide +kernel
theorem dX4_box_35 : decode cX4_box 35 = .ok (.isub, 1) := by decide +kernel
theorem dX4_box_36 : decode cX4_box 36 = .ok (.ireturn, 1) := by decide +kernel
theorem dX4_push_0 : decode cX4_push 0 = .ok (.aload_n 0, 1) := by decide +kernel
theorem dX4_push_1 : decode cX4_push 1 = .ok (.getfield 68, 3) := by decide +kernel
theorem dX4_push_4 : decode cX4_push 4 = .ok (.aload_n 0, 1) := by decide +kernel
theorem dX4_push_5 : decode cX4_push 5 = .ok (.getfield 95, 3) := by decide +kernel
theorem dX4_push_8 : decode cX4_push 8 = .ok (.iload_n 1, 1) := by decide +kernel
theorem dX4_push_9 : decode cX4_push 9 = .ok (.iastore, 1) := by decide +kernel
theorem dX4_push_10 : decode cX4_push 10 = .ok (.aload_n 0, 1) := by decide +kernel
theorem dX4_push_11 : decode cX4_push 11 = .ok (.getfield 71, 3) := by decide +kernel
theorem dX4_push_14 : decode cX4_push 14 = .ok (.aload_n 0, 1) := by decide +kernel
theorem dX4_push_15 : decode cX4_push 15 = .ok (.getfield 95, 3) := by decide +kernel
theorem dX4_push_18 : decode cX4_push 18 = .ok (.iload_n 2, 1) := by decide +kernel
theorem dX4_push_19 : decode cX4_push 19 = .ok (.iastore, 1) := by decide +kernel
theorem dX4_push_20 : decode cX4_push 20 = .ok (.aload_n 0, 1) := by decide +kernel
theorem dX4_push_21 : decode cX4_push 21 = .ok (.getfield 74, 3) := by decide +kernel
theorem dX4_push_24 : decode cX4_push 24 = .ok (.aload_n 0, 1) := by decide +kernel
theorem dX4_push_25 : decode cX4_push 25 = .ok (.getfield 95, 3) := by decide +kernel
theorem dX4_push_28 : decode cX4_push 28 = .ok (.iload_n 3, 1) := by decide +kernel
theorem dX4_push_29 : decode cX4_push 29 = .ok (.iastore, 1) := by decide +kernel
theorem dX4_push_30 : decode cX4_push 30 = .ok (.aload_n 0, 1) := by decide +kernel
theorem dX4_push_31 : decode cX4_push 31 = .ok (.getfield 77, 3) := by decide +kernel
theorem dX4_push_34 : decode cX4_push 34 = .ok (.aload_n 0, 1) := by decide +kernel
theorem dX4_push_35 : decode cX4_push 35 = .ok (.getfield 95, 3) := by decide +kernel
theorem dX4_push_38 : decode cX4_push 38 = .ok (.iconst 0, 1) := by decide +kernel
theorem dX4_push_39 : decode cX4_push 39 = .ok (.iastore, 1) := by decide +kernel
theorem dX4_push_40 : decode cX4_push 40 = .ok (.aload_n 0, 1) := by decide +kernel
theorem dX4_push_41 : decode cX4_push 41 = .ok (.getfield 80, 3) := by decide +kernel
theorem dX4_push_44 : decode cX4_push 44 = .ok (.aload_n 0, 1) := by decide +kernel
theorem dX4_push_45 : decode cX4_push 45 = .ok (.getfield 95, 3) := by decide +kernel
theorem dX4_push_48 : decode cX4_push 48 = .ok (.iconst 0, 1) := by decide +kernel
theorem dX4_push_49 : decode cX4_push 49 = .ok (.iastore, 1) := by decide +kernel
theorem dX4_push_50 : decode cX4_push 50 = .ok (.aload_n 0, 1) := by decide +kernel
theorem dX4_push_51 : decode cX4_push 51 = .ok (.dup, 1) := by decide +kernel
theorem dX4_push_52 : decode cX4_push 52 = .ok (.getfield 95, 3) := by decide +kernel
theorem dX4_push_55 : decode cX4_push 55 = .ok (.iconst 1, 1) := by decide +kernel
theorem dX4_push_56 : decode cX4_push 56 = .ok (.iadd, 1) := by decide +kernel
theorem dX4_push_57 : decode cX4_push 57 = .ok (.putfield 95, 3) := by decide +kernel
theorem dX4_push_60 : decode cX4_push 60 = .ok (.return_, 1) := by decide +kernel
theorem dX4_begin_0 : decode cX4_begin 0 = .ok (.aload_n 0, 1) := by decide +kernel
theorem dX4_begin_1 : decode cX4_begin 1 = .ok (.iload_n 1, 1) := by decide +kernel
theorem dX4_begin_2 : decode cX4_begin 2 = .ok (.aload_n 0, 1) := by decide +kernel
theorem dX4_begin_3 : decode cX4_begin 3 = .ok (.getfield 174, 3) := by decide +kernel
theorem dX4_begin_6 : decode cX4_begin 6 = .ok (.aload_n 0, 1) := by decide +kernel
theorem dX4_begin_7 : decode cX4_begin 7 = .ok (.aload_n 0, 1) := by decide +kernel
theorem dX4_begin_8 : decode cX4_begin 8 = .ok (.getfield 174, 3) := by decide +kernel
theorem dX4_begin_11 : decode cX4_begin 11 = .ok (.invokevirtual 177, 3) := by decide +kernel
theorem dX4_begin_14 : decode cX4_begin 14 = .ok (.invokevirtual 180, 3) := by decide +kernel
theorem dX4_begin_17 : decode cX4_begin 17 = .ok (.aload_n 0, 1) := by decide +kernel
theorem dX4_begin_18 : decode cX4_begin 18 = .ok (.getfield 174, 3) := by decide +kernel
theorem dX4_begin_21 : decode cX4_begin 21 = .ok (.istore_n 2, 1) := by decide +kernel
theorem dX4_begin_22 : decode cX4_begin 22 = .ok (.aload_n 0, 1) := by decide +kernel
theorem dX4_begin_23 : decode cX4_begin 23 = .ok (.dup, 1) := by decide +kernel
theorem dX4_begin_24 : decode cX4_begin 24 = .ok (.getfield 174, 3) := by decide +kernel
theorem dX4_begin_27 : decode cX4_begin 27 = .ok (.iconst 1, 1) := by decide +kernel
theorem dX4_begin_28 : decode cX4_begin 28 = .ok (.iadd, 1) := by decide +kernel
theorem dX4_begin_29 : decode cX4_begin 29 = .ok (.putfield 174, 3) := by decide +kernel
theorem dX4_begin_32 : decode cX4_begin 32 = .ok (.iload_n 1, 1) := by decide +kernel
theorem dX4_begin_33 : decode cX4_begin 33 = .ok (.bipush 13, 2) := by decide +kernel
theorem dX4_begin_35 : decode cX4_begin 35 = .ok (.if_icmp .ne 27, 3) := by decide +kernel
theorem dX4_begin_38 : decode cX4_begin 38 = .ok (.aload_n 0, 1) := by decide +kernel
theorem dX4_begin_39 : decode cX4_begin 39 = .ok (.getfield 80, 3) := by decide +kernel
theorem dX4_begin_42 : decode cX4_begin 42 = .ok (.aload_n 0, 1) := by decide +kernel
theorem dX4_begin_43 : decode cX4_begin 43 = .ok (.getfield 95, 3) := by decide +kernel
theorem dX4_begin_46 : decode cX4_begin 46 = .ok (.iconst 1, 1) := by decide +kernel
theorem dX4_begin_47 : decode cX4_begin 47 = .ok (.isub, 1) := by decide +kernel
theorem dX4_begin_48 : decode cX4_begin 48 = .ok (.aload_n 0, 1) := by decide +kernel
theorem dX4_begin_49 : decode cX4_begin 49 = .ok (.getfield 16, 3) := by decide +kernel
theorem dX4_begin_52 : decode cX4_begin 52 = .ok (.iload_n 2, 1) := by decide +kernel
theorem dX4_begin_53 : decode cX4_begin 53 = .ok (.iaload, 1) := by decide +kernel
theorem dX4_begin_54 : decode cX4_begin 54 = .ok (.iastore, 1) := by decide +kernel
theorem dX4_begin_55 : decode cX4_begin 55 = .ok (.aload_n 0, 1) := by decide +kernel
theorem dX4_begin_56 : decode cX4_begin 56 = .ok (.invokevirtual 183, 3) := by decide +kernel
theorem dX4_begin_59 : decode cX4_begin 59 = .ok (.goto 88, 3) := by decide +kernel
theorem dX4_begin_62 : decode cX4_begin 62 = .ok (.iload_n 1, 1) := by decide +kernel
theorem dX4_begin_63 : decode cX4_begin 63 = .ok (.bipush 14, 2) := by decide +kernel
theorem dX4_begin_65 : decode cX4_begin 65 = .ok (.if_icmp .ne 29, 3) := by decide +kernel
theorem dX4_begin_68 : decode cX4_begin 68 = .ok (.aload_n 0, 1) := by decide +kernel
theorem dX4_begin_69 : decode cX4_begin 69 = .ok (.getfield 65, 3) := by decide +kernel
theorem dX4_begin_72 : decode cX4_begin 72 = .ok (.aload_n 0, 1) := by decide +kernel
theorem dX4_begin_73 : decode cX4_begin 73 = .ok (.getfield 127, 3) := by decide +kernel
theorem dX4_begin_76 : decode cX4_begin 76 = .ok (.aload_n 0, 1) := by decide +kernel
theorem dX4_begin_77 : decode cX4_begin 77 = .ok (.getfield 130, 3) := by decide +kernel
theorem dX4_begin_80 : decode cX4_begin 80 = .ok (.iastore, 1) := by decide +kernel
theorem dX4_begin_81 : decode cX4_begin 81 = .ok (.aload_n 0, 1) := by decide +kernel
theorem dX4_begin_82 : decode cX4_begin 82 = .ok (.dup, 1) := by decide +kernel
theorem dX4_begin_83 : decode cX4_begin 83 = .ok (.getfield 127, 3) := by decide +kernel
theorem dX4_begin_86 : decode cX4_begin 86 = .ok (.iconst 1, 1) := by decide +kernel
theorem dX4_begin_87 : decode cX4_begin 87 = .ok (.iadd, 1) := by decide +kernel
theorem dX4_begin_88 : decode cX4_begin 88 = .ok (.putfield 127, 3) := by decide +kernel
theorem dX4_begin_91 : decode cX4_begin 91 = .ok (.goto 56, 3) := by decide +kernel
theorem dX4_begin_94 : decode cX4_begin 94 = .ok (.iload_n 1, 1) := by decide +kernel
theorem dX4_begin_95 : decode cX4_begin 95 = .ok (.bipush 21, 2) := by decide +kernel
theorem dX4_begin_97 : decode cX4_begin 97 = .ok (.if_icmp .ne 50, 3) := by decide +kernel
theorem dX4_begin_100 : decode cX4_begin 100 = .ok (.aload_n 0, 1) := by decide +kernel
theorem dX4_begin_101 : decode cX4_begin 101 = .ok (.getfield 22, 3) := by decide +kernel
theorem dX4_begin_104 : decode cX4_begin 104 = .ok (.aload_n 0, 1) := by decide +kernel
theorem dX4_begin_105 : decode cX4_begin 105 = .ok (.getfield 13, 3) := by decide +kernel
theorem dX4_begin_108 : decode cX4_begin 108 = .ok (.iload_n 2, 1) := by decide +kernel
theorem dX4_begin_109 : decode cX4_begin 109 = .ok (.iaload, 1) := by decide +kernel
theorem dX4_begin_110 : decode cX4_begin 110 = .ok (.iaload, 1) := by decide +kernel
theorem dX4_begin_111 : decode cX4_begin 111 = .ok (.ifCond .ne 36, 3) := by decide +kernel
theorem dX4_begin_114 : decode cX4_begin 114 = .ok (.aload_n 0, 1) := by decide +kernel
theorem dX4_begin_115 : decode cX4_begin 115 = .ok (.iload_n 2, 1) := by decide +kernel
theorem dX4_begin_116 : decode cX4_begin 116 = .ok (.bipush 22, 2) := by decide +kernel
theorem dX4_begin_118 : decode cX4_begin 118 = .ok (.invokevirtual 186, 3) := by decide +kernel
theorem dX4_begin_121 : decode cX4_begin 121 = .ok (.istore_n 3, 1) := by decide +kernel
theorem dX4_begin_122 : decode cX4_begin 122 = .ok (.aload_n 0, 1) := by decide +kernel
theorem dX4_begin_123 : decode cX4_begin 123 = .ok (.iload_n 3, 1) := by decide +kernel
theorem dX4_begin_124 : decode cX4_begin 124 = .ok (.ifCond .ge 17, 3) := by decide +kernel
theorem dX4_begin_127 : decode cX4_begin 127 = .ok (.aload_n 0, 1) := by decide +kernel
theorem dX4_begin_128 : decode cX4_begin 128 = .ok (.getfield 74, 3) := by decide +kernel
theorem dX4_begin_131 : decode cX4_begin 131 = .ok (.aload_n 0, 1) := by decide +kernel
theorem dX4_begin_132 : decode cX4_begin 132 = .ok (.getfield 95, 3) := by decide +kernel
theorem dX4_begin_135 : decode cX4_begin 135 = .ok (.iconst 1, 1) := by decide +kernel
theorem dX4_begin_136 : decode cX4_begin 136 = .ok (.isub, 1) := by decide +kernel
theorem dX4_begin_137 : decode cX4_begin 137 = .ok (.iaload, 1) := by decide +kernel
theorem dX4_begin_138 : decode cX4_begin 138 = .ok (.goto 6, 3) := by decide +kernel
theorem dX4_begin_141 : decode cX4_begin 141 = .ok (.iload_n 3, 1) := by decide +kernel
theorem dX4_begin_142 : decode cX4_begin 142 = .ok (.iconst 1, 1) := by decide +kernel
theorem dX4_begin_143 : decode cX4_begin 143 = .ok (.iadd, 1) := by decide +kernel
theorem dX4_begin_144 : decode cX4_begin 144 = .ok (.putfield 174, 3) := by decide +kernel
theorem dX4_begin_147 : decode cX4_begin 147 = .ok (.return_, 1) := by decide +kernel
theorem dX4_round_0 : decode cX4_round 0 = .ok (.aload_n 0, 1) := by decide +kernel
theorem dX4_round_1 : decode cX4_round 1 = .ok (.getfield 95, 3) := by decide +kernel
theorem dX4_round_4 : decode cX4_round 4 = .ok (.iconst 1, 1) := by decide +kernel
theorem dX4_round_5 : decode cX4_round 5 = .ok (.isub, 1) := by decide +kernel
theorem dX4_round_6 : decode cX4_round 6 = .ok (.istore_n 1, 1) := by decide +kernel
theorem dX4_round_7 : decode cX4_round 7 = .ok (.aload_n 0, 1) := by decide +kernel
theorem dX4_round_8 : decode cX4_round 8 = .ok (.getfield 80, 3) := by decide +kernel
theorem dX4_round_11 : decode cX4_round 11 = .ok (.iload_n 1, 1) := by decide +kernel
theorem dX4_round_12 : decode cX4_round 12 = .ok (.iaload, 1) := by decide +kernel
theorem dX4_round_13 : decode cX4_round 13 = .ok (.ifCond .ne 8, 3) := by decide +kernel
theorem dX4_round_16 : decode cX4_round 16 = .ok (.aload_n 0, 1) := by decide +kernel
theorem dX4_round_17 : decode cX4_round 17 = .ok (.invokevirtual 190, 3) := by decide +kernel
theorem dX4_round_20 : decode cX4_round 20 = .ok (.return_, 1) := by decide +kernel
theorem dX4_round_21 : decode cX4_round 21 = .ok (.aload_n 0, 1) := by decide +kernel
theorem dX4_round_22 : decode cX4_round 22 = .ok (.invokevirtual 193, 3) := by decide +kernel
theorem dX4_round_25 : decode cX4_round 25 = .ok (.ifCond .ne 13, 3) := by decide +kernel
theorem dX4_round_28 : decode cX4_round 28 = .ok (.aload_n 0, 1) := by decide +kernel
theorem dX4_round_29 : decode cX4_round 29 = .ok (.iconst 3, 1) := by decide +kernel
theorem dX4_round_30 : decode cX4_round 30 = .ok (.putfield 197, 3) := by decide +kernel
theorem dX4_round_33 : decode cX4_round 33 = .ok (.aload_n 0, 1) := by decide +kernel
theorem dX4_round_34 : decode cX4_round 34 = .ok (.invokevirtual 190, 3) := by decide +kernel
theorem dX4_round_37 : decode cX4_round 37 = .ok (.return_, 1) := by decide +kernel
theorem dX4_round_38 : decode cX4_round 38 = .ok (.aload_n 0, 1) := by decide +kernel
theorem dX4_round_39 : decode cX4_round 39 = .ok (.getfield 80, 3) := by decide +kernel
theorem dX4_round_42 : decode cX4_round 42 = .ok (.iload_n 1, 1) := by decide +kernel
theorem dX4_round_43 : decode cX4_round 43 = .ok (.dup2, 1) := by decide +kernel
theorem dX4_round_44 : decode cX4_round 44 = .ok (.iaload, 1) := by decide +kernel
theorem dX4_round_45 : decode cX4_round 45 = .ok (.iconst 1, 1) := by decide +kernel
theorem dX4_round_46 : decode cX4_round 46 = .ok (.isub, 1) := by decide +kernel
theorem dX4_round_47 : decode cX4_round 47 = .ok (.iastore, 1) := by decide +kernel
theorem dX4_round_48 : decode cX4_round 48 = .ok (.aload_n 0, 1) := by decide +kernel
theorem dX4_round_49 : decode cX4_round 49 = .ok (.aload_n 0, 1) := by decide +kernel
theorem dX4_round_50 : decode cX4_round 50 = .ok (.getfield 71, 3) := by decide +kernel
theorem dX4_round_53 : decode cX4_round 53 = .ok (.iload_n 1, 1) := by decide +kernel
theorem dX4_round_54 : decode cX4_round 54 = .ok (.iaload, 1) := by decide +kernel
theorem dX4_round_55 : decode cX4_round 55 = .ok (.iconst 1, 1) := by decide +kernel
theorem dX4_round_56 : decode cX4_round 56 = .ok (.iadd, 1) := by decide +kernel
theorem dX4_round_57 : decode cX4_round 57 = .ok (.putfield 174, 3) := by decide +kernel
theorem dX4_round_60 : decode cX4_round 60 = .ok (.return_, 1) := by decide +kernel
theorem dX4_leave_0 : decode cX4_leave 0 = .ok (.aload_n 0, 1) := by decide +kernel
theorem dX4_leave_1 : decode cX4_leave 1 = .ok (.dup, 1) := by decide +kernel
theorem dX4_leave_2 : decode cX4_leave 2 = .ok (.getfield 95, 3) := by decide +kernel
theorem dX4_leave_5 : decode cX4_leave 5 = .ok (.iconst 1, 1) := by decide +kernel
theorem dX4_leave_6 : decode cX4_leave 6 = .ok (.isub, 1) := by decide +kernel
theorem dX4_leave_7 : decode cX4_leave 7 = .ok (.putfield 95, 3) := by decide +kernel
theorem dX4_leave_10 : decode cX4_leave 10 = .ok (.aload_n 0, 1) := by decide +kernel
theorem dX4_leave_11 : decode cX4_leave 11 = .ok (.aload_n 0, 1) := by decide +kernel
theorem dX4_leave_12 : decode cX4_leave 12 = .ok (.getfield 74, 3) := by decide +kernel
theorem dX4_leave_15 : decode cX4_leave 15 = .ok (.aload_n 0, 1) := by decide +kernel
theorem dX4_leave_16 : decode cX4_leave 16 = .ok (.getfield 95, 3) := by decide +kernel
theorem dX4_leave_19 : decode cX4_leave 19 = .ok (.iaload, 1) := by decide +kernel
theorem dX4_leave_20 : decode cX4_leave 20 = .ok (.iconst 1, 1) := by decide +kernel
theorem dX4_leave_21 : decode cX4_leave 21 = .ok (.iadd, 1) := by decide +kernel
theorem dX4_leave_22 : decode cX4_leave 22 = .ok (.putfield 174, 3) := by decide +kernel
theorem dX4_leave_25 : decode cX4_leave 25 = .ok (.return_, 1) := by decide +kernel
theorem dX4_call_0 : decode cX4_call 0 = .ok (.aload_n 0, 1) := by decide +kernel
theorem dX4_call_1 : decode cX4_call 1 = .ok (.getfield 16, 3) := by decide +kernel
theorem dX4_call_4 : decode cX4_call 4 = .ok (.iload_n 1, 1) := by decide +kernel
theorem dX4_call_5 : decode cX4_call 5 = .ok (.iaload, 1) := by decide +kernel
theorem dX4_call_6 : decode cX4_call 6 = .ok (.istore_n 2, 1) := by decide +kernel
theorem dX4_call_7 : decode cX4_call 7 = .ok (.aload_n 0, 1) := by decide +kernel
theorem dX4_call_8 : decode cX4_call 8 = .ok (.getfield 200, 3) := by decide +kernel
theorem dX4_call_11 : decode cX4_call 11 = .ok (.bipush 6, 2) := by decide +kernel
theorem dX4_call_13 : decode cX4_call 13 = .ok (.if_icmp .eq 11, 3) := by decide +kernel
theorem dX4_call_16 : decode cX4_call 16 = .ok (.aload_n 0, 1) := by decide +kernel
theorem dX4_call_17 : decode cX4_call 17 = .ok (.iload_n 2, 1) := by decide +kernel
theorem dX4_call_18 : decode cX4_call 18 = .ok (.invokevirtual 203, 3) := by decide +kernel
theorem dX4_call_21 : decode cX4_call 21 = .ok (.ifCond .eq 14, 3) := by decide +kernel
theorem dX4_call_24 : decode cX4_call 24 = .ok (.aload_n 0, 1) := by decide +kernel
theorem dX4_call_25 : decode cX4_call 25 = .ok (.aload_n 0, 1) := by decide +kernel
theorem dX4_call_26 : decode cX4_call 26 = .ok (.bipush 7, 2) := by decide +kernel
theorem dX4_call_28 : decode cX4_call 28 = .ok (.invokevirtual 155, 3) := by decide +kernel
theorem dX4_call_31 : decode cX4_call 31 = .ok (.putfield 197, 3) := by decide +kernel
theorem dX4_call_34 : decode cX4_call 34 = .ok (.return_, 1) := by decide +kernel
theorem dX4_call_35 : decode cX4_call 35 = .ok (.aload_n 0, 1) := by decide +kernel
theorem dX4_call_36 : decode cX4_call 36 = .ok (.dup, 1) := by decide +kernel
theorem dX4_call_37 : decode cX4_call 37 = .ok (.getfield 200, 3) := by decide +kernel
theorem dX4_call_40 : decode cX4_call 40 = .ok (.iconst 1, 1) := by decide +kernel
theorem dX4_call_41 : decode cX4_call 41 = .ok (.iadd, 1) := by decide +kernel
theorem dX4_call_42 : decode cX4_call 42 = .ok (.putfield 200, 3) := by decide +kernel
theorem dX4_call_45 : decode cX4_call 45 = .ok (.aload_n 0, 1) := by decide +kernel
theorem dX4_call_46 : decode cX4_call 46 = .ok (.iconst 0, 1) := by decide +kernel
theorem dX4_call_47 : decode cX4_call 47 = .ok (.putfield 171, 3) := by decide +kernel
theorem dX4_call_50 : decode cX4_call 50 = .ok (.aload_n 0, 1) := by decide +kernel
theorem dX4_call_51 : decode cX4_call 51 = .ok (.iconst 0, 1) := by decide +kernel
theorem dX4_call_52 : decode cX4_call 52 = .ok (.iload_n 1, 1) := by decide +kernel
theorem dX4_call_53 : decode cX4_call 53 = .ok (.bipush 60, 2) := by decide +kernel
theorem dX4_call_55 : decode cX4_call 55 = .ok (.iload_n 2, 1) := by decide +kernel
theorem dX4_call_56 : decode cX4_call 56 = .ok (.imul, 1) := by decide +kernel
theorem dX4_call_57 : decode cX4_call 57 = .ok (.aload_n 0, 1) := by decide +kernel
theorem dX4_call_58 : decode cX4_call 58 = .ok (.getfield 19, 3) := by decide +kernel
theorem dX4_call_61 : decode cX4_call 61 = .ok (.iload_n 2, 1) := by decide +kernel
theorem dX4_call_62 : decode cX4_call 62 = .ok (.iaload, 1) := by decide +kernel
theorem dX4_call_63 : decode cX4_call 63 = .ok (.iadd, 1) := by decide +kernel
theorem dX4_call_64 : decode cX4_call 64 = .ok (.invokevirtual 180, 3) := by decide +kernel
theorem dX4_call_67 : decode cX4_call 67 = .ok (.aload_n 0, 1) := by decide +kernel
theorem dX4_call_68 : decode cX4_call 68 = .ok (.bipush 60, 2) := by decide +kernel
theorem dX4_call_70 : decode cX4_call 70 = .ok (.iload_n 2, 1) := by decide +kernel
theorem dX4_call_71 : decode cX4_call 71 = .ok (.imul, 1) := by decide +kernel
theorem dX4_call_72 : decode cX4_call 72 = .ok (.putfield 174, 3) := by decide +kernel
theorem dX4_call_75 : decode cX4_call 75 = .ok (.return_, 1) := by decide +kernel
theorem dX4_step_0 : decode cX4_step 0 = .ok (.aload_n 0, 1) := by decide +kernel
theorem dX4_step_1 : decode cX4_step 1 = .ok (.getfield 7, 3) := by decide +kernel
theorem dX4_step_4 : decode cX4_step 4 = .ok (.aload_n 0, 1) := by decide +kernel
theorem dX4_step_5 : decode cX4_step 5 = .ok (.getfield 174, 3) := by decide +kernel
theorem dX4_step_8 : decode cX4_step 8 = .ok (.iaload, 1) := by decide +kernel
theorem dX4_step_9 : decode cX4_step 9 = .ok (.istore_n 1, 1) := by decide +kernel
theorem dX4_step_10 : decode cX4_step 10 = .ok (.aload_n 0, 1) := by decide +kernel
theorem dX4_step_11 : decode cX4_step 11 = .ok (.invokevirtual 193, 3) := by decide +kernel
theorem dX4_step_14 : decode cX4_step 14 = .ok (.ifCond .ne 11, 3) := by decide +kernel
theorem dX4_step_17 : decode cX4_step 17 = .ok (.aload_n 0, 1) := by decide +kernel
theorem dX4_step_18 : decode cX4_step 18 = .ok (.iconst 3, 1) := by decide +kernel
theorem dX4_step_19 : decode cX4_step 19 = .ok (.putfield 197, 3) := by decide +kernel
theorem dX4_step_22 : decode cX4_step 22 = .ok (.goto 72, 3) := by decide +kernel
theorem dX4_step_25 : decode cX4_step 25 = .ok (.iload_n 1, 1) := by decide +kernel
theorem dX4_step_26 : decode cX4_step 26 = .ok (.invokestatic 98, 3) := by decide +kernel
theorem dX4_step_29 : decode cX4_step 29 = .ok (.ifCond .eq 11, 3) := by decide +kernel
theorem dX4_step_32 : decode cX4_step 32 = .ok (.aload_n 0, 1) := by decide +kernel
theorem dX4_step_33 : decode cX4_step 33 = .ok (.iload_n 1, 1) := by decide +kernel
theorem dX4_step_34 : decode cX4_step 34 = .ok (.invokevirtual 206, 3) := by decide +kernel
theorem dX4_step_37 : decode cX4_step 37 = .ok (.goto 57, 3) := by decide +kernel
theorem dX4_step_40 : decode cX4_step 40 = .ok (.iload_n 1, 1) := by decide +kernel
theorem dX4_step_41 : decode cX4_step 41 = .ok (.bipush 20, 2) := by decide +kernel
theorem dX4_step_43 : decode cX4_step 43 = .ok (.if_icmp .ne 14, 3) := by decide +kernel
theorem dX4_step_46 : decode cX4_step 46 = .ok (.aload_n 0, 1) := by decide +kernel
theorem dX4_step_47 : decode cX4_step 47 = .ok (.aload_n 0, 1) := by decide +kernel
theorem dX4_step_48 : decode cX4_step 48 = .ok (.getfield 174, 3) := by decide +kernel
theorem dX4_step_51 : decode cX4_step 51 = .ok (.invokevirtual 209, 3) := by decide +kernel
theorem dX4_step_54 : decode cX4_step 54 = .ok (.goto 40, 3) := by decide +kernel
theorem dX4_step_57 : decode cX4_step 57 = .ok (.aload_n 0, 1) := by decide +kernel
theorem dX4_step_58 : decode cX4_step 58 = .ok (.aload_n 0, 1) := by decide +kernel
theorem dX4_step_59 : decode cX4_step 59 = .ok (.iload_n 1, 1) := by decide +kernel
theorem dX4_step_60 : decode cX4_step 60 = .ok (.aload_n 0, 1) := by decide +kernel
theorem dX4_step_61 : decode cX4_step 61 = .ok (.getfield 13, 3) := by decide +kernel
theorem dX4_step_64 : decode cX4_step 64 = .ok (.aload_n 0, 1) := by decide +kernel
theorem dX4_step_65 : decode cX4_step 65 = .ok (.getfield 174, 3) := by decide +kernel
theorem dX4_step_68 : decode cX4_step 68 = .ok (.iaload, 1) := by decide +kernel
theorem dX4_step_69 : decode cX4_step 69 = .ok (.aload_n 0, 1) := by decide +kernel
theorem dX4_step_70 : decode cX4_step 70 = .ok (.getfield 16, 3) := by decide +kernel
theorem dX4_step_73 : decode cX4_step 73 = .ok (.aload_n 0, 1) := by decide +kernel
theorem dX4_step_74 : decode cX4_step 74 = .ok (.getfield 174, 3) := by decide +kernel
theorem dX4_step_77 : decode cX4_step 77 = .ok (.iaload, 1) := by decide +kernel
theorem dX4_step_78 : decode cX4_step 78 = .ok (.invokevirtual 212, 3) := by decide +kernel
theorem dX4_step_81 : decode cX4_step 81 = .ok (.putfield 197, 3) := by decide +kernel
theorem dX4_step_84 : decode cX4_step 84 = .ok (.aload_n 0, 1) := by decide +kernel
theorem dX4_step_85 : decode cX4_step 85 = .ok (.dup, 1) := by decide +kernel
theorem dX4_step_86 : decode cX4_step 86 = .ok (.getfield 174, 3) := by decide +kernel
theorem dX4_step_89 : decode cX4_step 89 = .ok (.iconst 1, 1) := by decide +kernel
theorem dX4_step_90 : decode cX4_step 90 = .ok (.iadd, 1) := by decide +kernel
theorem dX4_step_91 : decode cX4_step 91 = .ok (.putfield 174, 3) := by decide +kernel
theorem dX4_step_94 : decode cX4_step 94 = .ok (.return_, 1) := by decide +kernel
theorem dX4_ended_0 : decode cX4_ended 0 = .ok (.aload_n 0, 1) := by decide +kernel
theorem dX4_ended_1 : decode cX4_ended 1 = .ok (.getfield 95, 3) := by decide +kernel
theorem dX4_ended_4 : decode cX4_ended 4 = .ok (.iconst 1, 1) := by decide +kernel
theorem dX4_ended_5 : decode cX4_ended 5 = .ok (.isub, 1) := by decide +kernel
theorem dX4_ended_6 : decode cX4_ended 6 = .ok (.istore_n 1, 1) := by decide +kernel
theorem dX4_ended_7 : decode cX4_ended 7 = .ok (.aload_n 0, 1) := by decide +kernel
theorem dX4_ended_8 : decode cX4_ended 8 = .ok (.getfield 68, 3) := by decide +kernel
theorem dX4_ended_11 : decode cX4_ended 11 = .ok (.iload_n 1, 1) := by decide +kernel
theorem dX4_ended_12 : decode cX4_ended 12 = .ok (.iaload, 1) := by decide +kernel
theorem dX4_ended_13 : decode cX4_ended 13 = .ok (.lookupswitch 154 #[(0, 51), (10, 59), (13, 67), (14, 74), (15, 134)], 51) := by decide +kernel
theorem dX4_ended_64 : decode cX4_ended 64 = .ok (.aload_n 0, 1) := by decide +kernel
theorem dX4_ended_65 : decode cX4_ended 65 = .ok (.iload_n 1, 1) := by decide +kernel
theorem dX4_ended_66 : decode cX4_ended 66 = .ok (.invokevirtual 215, 3) := by decide +kernel
theorem dX4_ended_69 : decode cX4_ended 69 = .ok (.goto 102, 3) := by decide +kernel
theorem dX4_ended_72 : decode cX4_ended 72 = .ok (.aload_n 0, 1) := by decide +kernel
theorem dX4_ended_73 : decode cX4_ended 73 = .ok (.iload_n 1, 1) := by decide +kernel
theorem dX4_ended_74 : decode cX4_ended 74 = .ok (.invokevirtual 218, 3) := by decide +kernel
theorem dX4_ended_77 : decode cX4_ended 77 = .ok (.goto 94, 3) := by decide +kernel
theorem dX4_ended_80 : decode cX4_ended 80 = .ok (.aload_n 0, 1) := by decide +kernel
theorem dX4_ended_81 : decode cX4_ended 81 = .ok (.invokevirtual 221, 3) := by decide +kernel
theorem dX4_ended_84 : decode cX4_ended 84 = .ok (.goto 87, 3) := by decide +kernel
theorem dX4_ended_87 : decode cX4_ended 87 = .ok (.aload_n 0, 1) := by decide +kernel
theorem dX4_ended_88 : decode cX4_ended 88 = .ok (.dup, 1) := by decide +kernel
theorem dX4_ended_89 : decode cX4_ended 89 = .ok (.getfield 127, 3) := by decide +kernel
theorem dX4_ended_92 : decode cX4_ended 92 = .ok (.iconst 1, 1) := by decide +kernel
theorem dX4_ended_93 : decode cX4_ended 93 = .ok (.isub, 1) := by decide +kernel
theorem dX4_ended_94 : decode cX4_ended 94 = .ok (.putfield 127, 3) := by decide +kernel
theorem dX4_ended_97 : decode cX4_ended 97 = .ok (.aload_n 0, 1) := by decide +kernel
theorem dX4_ended_98 : decode cX4_ended 98 = .ok (.getfield 197, 3) := by decide +kernel
theorem dX4_ended_101 : decode cX4_ended 101 = .ok (.iconst 1, 1) := by decide +kernel
theorem dX4_ended_102 : decode cX4_ended 102 = .ok (.if_icmp .ne 26, 3) := by decide +kernel
theorem dX4_ended_105 : decode cX4_ended 105 = .ok (.aload_n 0, 1) := by decide +kernel
theorem dX4_ended_106 : decode cX4_ended 106 = .ok (.getfield 130, 3) := by decide +kernel
theorem dX4_ended_109 : decode cX4_ended 109 = .ok (.aload_n 0, 1) := by decide +kernel
theorem dX4_ended_110 : decode cX4_ended 110 = .ok (.getfield 65, 3) := by decide +kernel
theorem dX4_ended_113 : decode cX4_ended 113 = .ok (.aload_n 0, 1) := by decide +kernel
theorem dX4_ended_114 : decode cX4_ended 114 = .ok (.getfield 127, 3) := by decide +kernel
theorem dX4_ended_117 : decode cX4_ended 117 = .ok (.iaload, 1) := by decide +kernel
theorem dX4_ended_118 : decode cX4_ended 118 = .ok (.if_icmp .le 10, 3) := by decide +kernel
theorem dX4_ended_121 : decode cX4_ended 121 = .ok (.aload_n 0, 1) := by decide +kernel
theorem dX4_ended_122 : decode cX4_ended 122 = .ok (.invokevirtual 224, 3) := by decide +kernel
theorem dX4_ended_125 : decode cX4_ended 125 = .ok (.goto (-20), 3) := by decide +kernel
theorem dX4_ended_128 : decode cX4_ended 128 = .ok (.aload_n 0, 1) := by decide +kernel
theorem dX4_ended_129 : decode cX4_ended 129 = .ok (.getfield 127, 3) := by decide +kernel
theorem dX4_ended_132 : decode cX4_ended 132 = .ok (.ifCond .ne 8, 3) := by decide +kernel
theorem dX4_ended_135 : decode cX4_ended 135 = .ok (.aload_n 0, 1) := by decide +kernel
theorem dX4_ended_136 : decode cX4_ended 136 = .ok (.iconst 0, 1) := by decide +kernel
theorem dX4_ended_137 : decode cX4_ended 137 = .ok (.putfield 130, 3) := by decide +kernel
theorem dX4_ended_140 : decode cX4_ended 140 = .ok (.aload_n 0, 1) := by decide +kernel
theorem dX4_ended_141 : decode cX4_ended 141 = .ok (.invokevirtual 190, 3) := by decide +kernel
theorem dX4_ended_144 : decode cX4_ended 144 = .ok (.goto 27, 3) := by decide +kernel
theorem dX4_ended_147 : decode cX4_ended 147 = .ok (.aload_n 0, 1) := by decide +kernel
theorem dX4_ended_148 : decode cX4_ended 148 = .ok (.getfield 197, 3) := by decide +kernel
theorem dX4_ended_151 : decode cX4_ended 151 = .ok (.iconst 3, 1) := by decide +kernel
theorem dX4_ended_152 : decode cX4_ended 152 = .ok (.if_icmp .eq 8, 3) := by decide +kernel
theorem dX4_ended_155 : decode cX4_ended 155 = .ok (.aload_n 0, 1) := by decide +kernel
theorem dX4_ended_156 : decode cX4_ended 156 = .ok (.iconst 0, 1) := by decide +kernel
theorem dX4_ended_157 : decode cX4_ended 157 = .ok (.putfield 197, 3) := by decide +kernel
theorem dX4_ended_160 : decode cX4_ended 160 = .ok (.aload_n 0, 1) := by decide +kernel
theorem dX4_ended_161 : decode cX4_ended 161 = .ok (.invokevirtual 190, 3) := by decide +kernel
theorem dX4_ended_164 : decode cX4_ended 164 = .ok (.goto 7, 3) := by decide +kernel
theorem dX4_ended_167 : decode cX4_ended 167 = .ok (.aload_n 0, 1) := by decide +kernel
theorem dX4_ended_168 : decode cX4_ended 168 = .ok (.invokevirtual 190, 3) := by decide +kernel
theorem dX4_ended_171 : decode cX4_ended 171 = .ok (.return_, 1) := by decide +kernel
theorem dX4_back_0 : decode cX4_back 0 = .ok (.aload_n 0, 1) := by decide +kernel
theorem dX4_back_1 : decode cX4_back 1 = .ok (.dup, 1) := by decide +kernel
theorem dX4_back_2 : decode cX4_back 2 = .ok (.getfield 95, 3) := by decide +kernel
theorem dX4_back_5 : decode cX4_back 5 = .ok (.iconst 1, 1) := by decide +kernel
theorem dX4_back_6 : decode cX4_back 6 = .ok (.isub, 1) := by decide +kernel
theorem dX4_back_7 : decode cX4_back 7 = .ok (.putfield 95, 3) := by decide +kernel
theorem dX4_back_10 : decode cX4_back 10 = .ok (.aload_n 0, 1) := by decide +kernel
theorem dX4_back_11 : decode cX4_back 11 = .ok (.dup, 1) := by decide +kernel
theorem dX4_back_12 : decode cX4_back 12 = .ok (.getfield 200, 3) := by decide +kernel
theorem dX4_back_15 : decode cX4_back 15 = .ok (.iconst 1, 1) := by decide +kernel
theorem dX4_back_16 : decode cX4_back 16 = .ok (.isub, 1) := by decide +kernel
theorem dX4_back_17 : decode cX4_back 17 = .ok (.putfield 200, 3) := by decide +kernel
theorem dX4_back_20 : decode cX4_back 20 = .ok (.aload_n 0, 1) := by decide +kernel
theorem dX4_back_21 : decode cX4_back 21 = .ok (.getfield 95, 3) := by decide +kernel
theorem dX4_back_24 : decode cX4_back 24 = .ok (.ifCond .ne 4, 3) := by decide +kernel
theorem dX4_back_27 : decode cX4_back 27 = .ok (.return_, 1) := by decide +kernel
theorem dX4_back_28 : decode cX4_back 28 = .ok (.aload_n 0, 1) := by decide +kernel
theorem dX4_back_29 : decode cX4_back 29 = .ok (.aload_n 0, 1) := by decide +kernel
theorem dX4_back_30 : decode cX4_back 30 = .ok (.getfield 71, 3) := by decide +kernel
theorem dX4_back_33 : decode cX4_back 33 = .ok (.iload_n 1, 1) := by decide +kernel
theorem dX4_back_34 : decode cX4_back 34 = .ok (.iaload, 1) := by decide +kernel
theorem dX4_back_35 : decode cX4_back 35 = .ok (.iconst 1, 1) := by decide +kernel
theorem dX4_back_36 : decode cX4_back 36 = .ok (.iadd, 1) := by decide +kernel
theorem dX4_back_37 : decode cX4_back 37 = .ok (.putfield 174, 3) := by decide +kernel
theorem dX4_back_40 : decode cX4_back 40 = .ok (.aload_n 0, 1) := by decide +kernel
theorem dX4_back_41 : decode cX4_back 41 = .ok (.getfield 197, 3) := by decide +kernel
theorem dX4_back_44 : decode cX4_back 44 = .ok (.iconst 1, 1) := by decide +kernel
theorem dX4_back_45 : decode cX4_back 45 = .ok (.if_icmp .eq 11, 3) := by decide +kernel
theorem dX4_back_48 : decode cX4_back 48 = .ok (.aload_n 0, 1) := by decide +kernel
theorem dX4_back_49 : decode cX4_back 49 = .ok (.getfield 197, 3) := by decide +kernel
theorem dX4_back_52 : decode cX4_back 52 = .ok (.iconst 3, 1) := by decide +kernel
theorem dX4_back_53 : decode cX4_back 53 = .ok (.if_icmp .ne 4, 3) := by decide +kernel
theorem dX4_back_56 : decode cX4_back 56 = .ok (.return_, 1) := by decide +kernel
theorem dX4_back_57 : decode cX4_back 57 = .ok (.aload_n 0, 1) := by decide +kernel
theorem dX4_back_58 : decode cX4_back 58 = .ok (.getfield 22, 3) := by decide +kernel
theorem dX4_back_61 : decode cX4_back 61 = .ok (.aload_n 0, 1) := by decide +kernel
theorem dX4_back_62 : decode cX4_back 62 = .ok (.getfield 13, 3) := by decide +kernel
theorem dX4_back_65 : decode cX4_back 65 = .ok (.aload_n 0, 1) := by decide +kernel
theorem dX4_back_66 : decode cX4_back 66 = .ok (.getfield 71, 3) := by decide +kernel
theorem dX4_back_69 : decode cX4_back 69 = .ok (.iload_n 1, 1) := by decide +kernel
theorem dX4_back_70 : decode cX4_back 70 = .ok (.iaload, 1) := by decide +kernel
theorem dX4_back_71 : decode cX4_back 71 = .ok (.iaload, 1) := by decide +kernel
theorem dX4_back_72 : decode cX4_back 72 = .ok (.aload_n 0, 1) := by decide +kernel
theorem dX4_back_73 : decode cX4_back 73 = .ok (.getfield 197, 3) := by decide +kernel
theorem dX4_back_76 : decode cX4_back 76 = .ok (.iconst 2, 1) := by decide +kernel
theorem dX4_back_77 : decode cX4_back 77 = .ok (.if_icmp .ne 10, 3) := by decide +kernel
theorem dX4_back_80 : decode cX4_back 80 = .ok (.aload_n 0, 1) := by decide +kernel
theorem dX4_back_81 : decode cX4_back 81 = .ok (.getfield 171, 3) := by decide +kernel
theorem dX4_back_84 : decode cX4_back 84 = .ok (.goto 4, 3) := by decide +kernel
theorem dX4_back_87 : decode cX4_back 87 = .ok (.iconst 0, 1) := by decide +kernel
theorem dX4_back_88 : decode cX4_back 88 = .ok (.iastore, 1) := by decide +kernel
theorem dX4_back_89 : decode cX4_back 89 = .ok (.aload_n 0, 1) := by decide +kernel
theorem dX4_back_90 : decode cX4_back 90 = .ok (.iconst 0, 1) := by decide +kernel
theorem dX4_back_91 : decode cX4_back 91 = .ok (.putfield 197, 3) := by decide +kernel
theorem dX4_back_94 : decode cX4_back 94 = .ok (.return_, 1) := by decide +kernel
theorem dX4_tried_0 : decode cX4_tried 0 = .ok (.aload_n 0, 1) := by decide +kernel
theorem dX4_tried_1 : decode cX4_tried 1 = .ok (.getfield 71, 3) := by decide +kernel
theorem dX4_tried_4 : decode cX4_tried 4 = .ok (.iload_n 1, 1) := by decide +kernel
theorem dX4_tried_5 : decode cX4_tried 5 = .ok (.iaload, 1) := by decide +kernel
theorem dX4_tried_6 : decode cX4_tried 6 = .ok (.istore_n 2, 1) := by decide +kernel
theorem dX4_tried_7 : decode cX4_tried 7 = .ok (.aload_n 0, 1) := by decide +kernel
theorem dX4_tried_8 : decode cX4_tried 8 = .ok (.getfield 77, 3) := by decide +kernel
theorem dX4_tried_11 : decode cX4_tried 11 = .ok (.iload_n 1, 1) := by decide +kernel
theorem dX4_tried_12 : decode cX4_tried 12 = .ok (.iaload, 1) := by decide +kernel
theorem dX4_tried_13 : decode cX4_tried 13 = .ok (.iconst 2, 1) := by decide +kernel
theorem dX4_tried_14 : decode cX4_tried 14 = .ok (.if_icmp .ne 45, 3) := by decide +kernel
theorem dX4_tried_17 : decode cX4_tried 17 = .ok (.aload_n 0, 1) := by decide +kernel
theorem dX4_tried_18 : decode cX4_tried 18 = .ok (.getfield 197, 3) := by decide +kernel
theorem dX4_tried_21 : decode cX4_tried 21 = .ok (.ifCond .ne 33, 3) := by decide +kernel
theorem dX4_tried_24 : decode cX4_tried 24 = .ok (.aload_n 0, 1) := by decide +kernel
theorem dX4_tried_25 : decode cX4_tried 25 = .ok (.aload_n 0, 1) := by decide +kernel
theorem dX4_tried_26 : decode cX4_tried 26 = .ok (.getfield 83, 3) := by decide +kernel
theorem dX4_tried_29 : decode cX4_tried 29 = .ok (.iload_n 1, 1) := by decide +kernel
theorem dX4_tried_30 : decode cX4_tried 30 = .ok (.iaload, 1) := by decide +kernel
theorem dX4_tried_31 : decode cX4_tried 31 = .ok (.putfield 197, 3) := by decide +kernel
theorem dX4_tried_34 : decode cX4_tried 34 = .ok (.aload_n 0, 1) := by decide +kernel
theorem dX4_tried_35 : decode cX4_tried 35 = .ok (.aload_n 0, 1) := by decide +kernel
theorem dX4_tried_36 : decode cX4_tried 36 = .ok (.getfield 86, 3) := by decide +kernel
theorem dX4_tried_39 : decode cX4_tried 39 = .ok (.iload_n 1, 1) := by decide +kernel
theorem dX4_tried_40 : decode cX4_tried 40 = .ok (.iaload, 1) := by decide +kernel
theorem dX4_tried_41 : decode cX4_tried 41 = .ok (.putfield 142, 3) := by decide +kernel
theorem dX4_tried_44 : decode cX4_tried 44 = .ok (.aload_n 0, 1) := by decide +kernel
theorem dX4_tried_45 : decode cX4_tried 45 = .ok (.aload_n 0, 1) := by decide +kernel
theorem dX4_tried_46 : decode cX4_tried 46 = .ok (.getfield 89, 3) := by decide +kernel
theorem dX4_tried_49 : decode cX4_tried 49 = .ok (.iload_n 1, 1) := by decide +kernel
theorem dX4_tried_50 : decode cX4_tried 50 = .ok (.iaload, 1) := by decide +kernel
theorem dX4_tried_51 : decode cX4_tried 51 = .ok (.putfield 171, 3) := by decide +kernel
theorem dX4_tried_54 : decode cX4_tried 54 = .ok (.aload_n 0, 1) := by decide +kernel
theorem dX4_tried_55 : decode cX4_tried 55 = .ok (.invokevirtual 190, 3) := by decide +kernel
theorem dX4_tried_58 : decode cX4_tried 58 = .ok (.return_, 1) := by decide +kernel
theorem dX4_tried_59 : decode cX4_tried 59 = .ok (.aload_n 0, 1) := by decide +kernel
theorem dX4_tried_60 : decode cX4_tried 60 = .ok (.iload_n 2, 1) := by decide +kernel
theorem dX4_tried_61 : decode cX4_tried 61 = .ok (.bipush 11, 2) := by decide +kernel
theorem dX4_tried_63 : decode cX4_tried 63 = .ok (.invokevirtual 186, 3) := by decide +kernel
theorem dX4_tried_66 : decode cX4_tried 66 = .ok (.istore_n 3, 1) := by decide +kernel
theorem dX4_tried_67 : decode cX4_tried 67 = .ok (.aload_n 0, 1) := by decide +kernel
theorem dX4_tried_68 : decode cX4_tried 68 = .ok (.getfield 77, 3) := by decide +kernel
theorem dX4_tried_71 : decode cX4_tried 71 = .ok (.iload_n 1, 1) := by decide +kernel
theorem dX4_tried_72 : decode cX4_tried 72 = .ok (.iaload, 1) := by decide +kernel
theorem dX4_tried_73 : decode cX4_tried 73 = .ok (.ifCond .ne 62, 3) := by decide +kernel
theorem dX4_tried_76 : decode cX4_tried 76 = .ok (.aload_n 0, 1) := by decide +kernel
theorem dX4_tried_77 : decode cX4_tried 77 = .ok (.getfield 197, 3) := by decide +kernel
theorem dX4_tried_80 : decode cX4_tried 80 = .ok (.iconst 1, 1) := by decide +kernel
theorem dX4_tried_81 : decode cX4_tried 81 = .ok (.if_icmp .ne 54, 3) := by decide +kernel
theorem dX4_tried_84 : decode cX4_tried 84 = .ok (.iload_n 3, 1) := by decide +kernel
theorem dX4_tried_85 : decode cX4_tried 85 = .ok (.ifCond .lt 50, 3) := by decide +kernel
theorem dX4_tried_88 : decode cX4_tried 88 = .ok (.aload_n 0, 1) := by decide +kernel
theorem dX4_tried_89 : decode cX4_tried 89 = .ok (.getfield 16, 3) := by decide +kernel
theorem dX4_tried_92 : decode cX4_tried 92 = .ok (.iload_n 2, 1) := by decide +kernel
theorem dX4_tried_93 : decode cX4_tried 93 = .ok (.iaload, 1) := by decide +kernel
theorem dX4_tried_94 : decode cX4_tried 94 = .ok (.aload_n 0, 1) := by decide +kernel
theorem dX4_tried_95 : decode cX4_tried 95 = .ok (.getfield 142, 3) := by decide +kernel
theorem dX4_tried_98 : decode cX4_tried 98 = .ok (.ishr, 1) := by decide +kernel
theorem dX4_tried_99 : decode cX4_tried 99 = .ok (.iconst 1, 1) := by decide +kernel
theorem dX4_tried_100 : decode cX4_tried 100 = .ok (.iand, 1) := by decide +kernel
theorem dX4_tried_101 : decode cX4_tried 101 = .ok (.ifCond .eq 34, 3) := by decide +kernel
theorem dX4_tried_104 : decode cX4_tried 104 = .ok (.aload_n 0, 1) := by decide +kernel
theorem dX4_tried_105 : decode cX4_tried 105 = .ok (.getfield 22, 3) := by decide +kernel
theorem dX4_tried_108 : decode cX4_tried 108 = .ok (.bipush 7, 2) := by decide +kernel
theorem dX4_tried_110 : decode cX4_tried 110 = .ok (.aload_n 0, 1) := by decide +kernel
theorem dX4_tried_111 : decode cX4_tried 111 = .ok (.getfield 142, 3) := by decide +kernel
theorem dX4_tried_114 : decode cX4_tried 114 = .ok (.iastore, 1) := by decide +kernel
theorem dX4_tried_115 : decode cX4_tried 115 = .ok (.aload_n 0, 1) := by decide +kernel
theorem dX4_tried_116 : decode cX4_tried 116 = .ok (.getfield 77, 3) := by decide +kernel
theorem dX4_tried_119 : decode cX4_tried 119 = .ok (.iload_n 1, 1) := by decide +kernel
theorem dX4_tried_120 : decode cX4_tried 120 = .ok (.iconst 1, 1) := by decide +kernel
theorem dX4_tried_121 : decode cX4_tried 121 = .ok (.iastore, 1) := by decide +kernel
theorem dX4_tried_122 : decode cX4_tried 122 = .ok (.aload_n 0, 1) := by decide +kernel
theorem dX4_tried_123 : decode cX4_tried 123 = .ok (.iconst 0, 1) := by decide +kernel
theorem dX4_tried_124 : decode cX4_tried 124 = .ok (.putfield 197, 3) := by decide +kernel
theorem dX4_tried_127 : decode cX4_tried 127 = .ok (.aload_n 0, 1) := by decide +kernel
theorem dX4_tried_128 : decode cX4_tried 128 = .ok (.iload_n 3, 1) := by decide +kernel
theorem dX4_tried_129 : decode cX4_tried 129 = .ok (.iconst 1, 1) := by decide +kernel
theorem dX4_tried_130 : decode cX4_tried 130 = .ok (.iadd, 1) := by decide +kernel
theorem dX4_tried_131 : decode cX4_tried 131 = .ok (.putfield 174, 3) := by decide +kernel
theorem dX4_tried_134 : decode cX4_tried 134 = .ok (.return_, 1) := by decide +kernel
theorem dX4_tried_135 : decode cX4_tried 135 = .ok (.aload_n 0, 1) := by decide +kernel
theorem dX4_tried_136 : decode cX4_tried 136 = .ok (.iload_n 2, 1) := by decide +kernel
theorem dX4_tried_137 : decode cX4_tried 137 = .ok (.bipush 12, 2) := by decide +kernel
theorem dX4_tried_139 : decode cX4_tried 139 = .ok (.invokevirtual 186, 3) := by decide +kernel
theorem dX4_tried_142 : decode cX4_tried 142 = .ok (.istore 4, 2) := by decide +kernel
theorem dX4_tried_144 : decode cX4_tried 144 = .ok (.iload 4, 2) := by decide +kernel
theorem dX4_tried_146 : decode cX4_tried 146 = .ok (.ifCond .lt 11, 3) := by decide +kernel
theorem dX4_tried_149 : decode cX4_tried 149 = .ok (.aload_n 0, 1) := by decide +kernel
theorem dX4_tried_150 : decode cX4_tried 150 = .ok (.getfield 197, 3) := by decide +kernel
theorem dX4_tried_153 : decode cX4_tried 153 = .ok (.iconst 3, 1) := by decide +kernel
theorem dX4_tried_154 : decode cX4_tried 154 = .ok (.if_icmp .ne 8, 3) := by decide +kernel
theorem dX4_tried_157 : decode cX4_tried 157 = .ok (.aload_n 0, 1) := by decide +kernel
theorem dX4_tried_158 : decode cX4_tried 158 = .ok (.invokevirtual 190, 3) := by decide +kernel
theorem dX4_tried_161 : decode cX4_tried 161 = .ok (.return_, 1) := by decide +kernel
theorem dX4_tried_162 : decode cX4_tried 162 = .ok (.aload_n 0, 1) := by decide +kernel
theorem dX4_tried_163 : decode cX4_tried 163 = .ok (.getfield 83, 3) := by decide +kernel
theorem dX4_tried_166 : decode cX4_tried 166 = .ok (.iload_n 1, 1) := by decide +kernel
theorem dX4_tried_167 : decode cX4_tried 167 = .ok (.aload_n 0, 1) := by decide +kernel
theorem dX4_tried_168 : decode cX4_tried 168 = .ok (.getfield 197, 3) := by decide +kernel
theorem dX4_tried_171 : decode cX4_tried 171 = .ok (.iastore, 1) := by decide +kernel
theorem dX4_tried_172 : decode cX4_tried 172 = .ok (.aload_n 0, 1) := by decide +kernel
theorem dX4_tried_173 : decode cX4_tried 173 = .ok (.getfield 86, 3) := by decide +kernel
theorem dX4_tried_176 : decode cX4_tried 176 = .ok (.iload_n 1, 1) := by decide +kernel
theorem dX4_tried_177 : decode cX4_tried 177 = .ok (.aload_n 0, 1) := by decide +kernel
theorem dX4_tried_178 : decode cX4_tried 178 = .ok (.getfield 142, 3) := by decide +kernel
theorem dX4_tried_181 : decode cX4_tried 181 = .ok (.iastore, 1) := by decide +kernel
theorem dX4_tried_182 : decode cX4_tried 182 = .ok (.aload_n 0, 1) := by decide +kernel
theorem dX4_tried_183 : decode cX4_tried 183 = .ok (.getfield 89, 3) := by decide +kernel
theorem dX4_tried_186 : decode cX4_tried 186 = .ok (.iload_n 1, 1) := by decide +kernel
theorem dX4_tried_187 : decode cX4_tried 187 = .ok (.aload_n 0, 1) := by decide +kernel
theorem dX4_tried_188 : decode cX4_tried 188 = .ok (.getfield 171, 3) := by decide +kernel
theorem dX4_tried_191 : decode cX4_tried 191 = .ok (.iastore, 1) := by decide +kernel
theorem dX4_tried_192 : decode cX4_tried 192 = .ok (.aload_n 0, 1) := by decide +kernel
theorem dX4_tried_193 : decode cX4_tried 193 = .ok (.getfield 77, 3) := by decide +kernel
theorem dX4_tried_196 : decode cX4_tried 196 = .ok (.iload_n 1, 1) := by decide +kernel
theorem dX4_tried_197 : decode cX4_tried 197 = .ok (.iconst 2, 1) := by decide +kernel
theorem dX4_tried_198 : decode cX4_tried 198 = .ok (.iastore, 1) := by decide +kernel
theorem dX4_tried_199 : decode cX4_tried 199 = .ok (.aload_n 0, 1) := by decide +kernel
theorem dX4_tried_200 : decode cX4_tried 200 = .ok (.iconst 0, 1) := by decide +kernel
theorem dX4_tried_201 : decode cX4_tried 201 = .ok (.putfield 197, 3) := by decide +kernel
theorem dX4_tried_204 : decode cX4_tried 204 = .ok (.aload_n 0, 1) := by decide +kernel
theorem dX4_tried_205 : decode cX4_tried 205 = .ok (.iload 4, 2) := by decide +kernel
theorem dX4_tried_207 : decode cX4_tried 207 = .ok (.iconst 1, 1) := by decide +kernel
theorem dX4_tried_208 : decode cX4_tried 208 = .ok (.iadd, 1) := by decide +kernel
theorem dX4_tried_209 : decode cX4_tried 209 = .ok (.putfield 174, 3) := by decide +kernel
theorem dX4_tried_212 : decode cX4_tried 212 = .ok (.return_, 1) := by decide +kernel
theorem dX4_looped_0 : decode cX4_looped 0 = .ok (.aload_n 0, 1) := by decide +kernel
theorem dX4_looped_1 : decode cX4_looped 1 = .ok (.getfield 197, 3) := by decide +kernel
theorem dX4_looped_4 : decode cX4_looped 4 = .ok (.ifCond .eq 13, 3) := by decide +kernel
theorem dX4_looped_7 : decode cX4_looped 7 = .ok (.aload_n 0, 1) := by decide +kernel
theorem dX4_looped_8 : decode cX4_looped 8 = .ok (.getfield 197, 3) := by decide +kernel
theorem dX4_looped_11 : decode cX4_looped 11 = .ok (.sipush 200, 3) := by decide +kernel
theorem dX4_looped_14 : decode cX4_looped 14 = .ok (.if_icmp .ne 13, 3) := by decide +kernel
theorem dX4_looped_17 : decode cX4_looped 17 = .ok (.aload_n 0, 1) := by decide +kernel
theorem dX4_looped_18 : decode cX4_looped 18 = .ok (.iconst 0, 1) := by decide +kernel
theorem dX4_looped_19 : decode cX4_looped 19 = .ok (.putfield 197, 3) := by decide +kernel
theorem dX4_looped_22 : decode cX4_looped 22 = .ok (.aload_n 0, 1) := by decide +kernel
theorem dX4_looped_23 : decode cX4_looped 23 = .ok (.invokevirtual 183, 3) := by decide +kernel
theorem dX4_looped_26 : decode cX4_looped 26 = .ok (.return_, 1) := by decide +kernel
theorem dX4_looped_27 : decode cX4_looped 27 = .ok (.aload_n 0, 1) := by decide +kernel
theorem dX4_looped_28 : decode cX4_looped 28 = .ok (.getfield 197, 3) := by decide +kernel
theorem dX4_looped_31 : decode cX4_looped 31 = .ok (.bipush 100, 2) := by decide +kernel
theorem dX4_looped_33 : decode cX4_looped 33 = .ok (.if_icmp .ne 11, 3) := by decide +kernel
theorem dX4_looped_36 : decode cX4_looped 36 = .ok (.aload_n 0, 1) := by decide +kernel
theorem dX4_looped_37 : decode cX4_looped 37 = .ok (.iconst 0, 1) := by decide +kernel
theorem dX4_looped_38 : decode cX4_looped 38 = .ok (.putfield 197, 3) := by decide +kernel
theorem dX4_looped_41 : decode cX4_looped 41 = .ok (.goto 22, 3) := by decide +kernel
theorem dX4_looped_44 : decode cX4_looped 44 = .ok (.aload_n 0, 1) := by decide +kernel
theorem dX4_looped_45 : decode cX4_looped 45 = .ok (.getfield 197, 3) := by decide +kernel
theorem dX4_looped_48 : decode cX4_looped 48 = .ok (.bipush 100, 2) := by decide +kernel
theorem dX4_looped_50 : decode cX4_looped 50 = .ok (.if_icmp .le 13, 3) := by decide +kernel
theorem dX4_looped_53 : decode cX4_looped 53 = .ok (.aload_n 0, 1) := by decide +kernel
theorem dX4_looped_54 : decode cX4_looped 54 = .ok (.dup, 1) := by decide +kernel
theorem dX4_looped_55 : decode cX4_looped 55 = .ok (.getfield 197, 3) := by decide +kernel
theorem dX4_looped_58 : decode cX4_looped 58 = .ok (.iconst 1, 1) := by decide +kernel
theorem dX4_looped_59 : decode cX4_looped 59 = .ok (.isub, 1) := by decide +kernel
theorem dX4_looped_60 : decode cX4_looped 60 = .ok (.putfield 197, 3) := by decide +kernel
theorem dX4_looped_63 : decode cX4_looped 63 = .ok (.aload_n 0, 1) := by decide +kernel
theorem dX4_looped_64 : decode cX4_looped 64 = .ok (.invokevirtual 190, 3) := by decide +kernel
theorem dX4_looped_67 : decode cX4_looped 67 = .ok (.return_, 1) := by decide +kernel
theorem dX4_atEnd_0 : decode cX4_atEnd 0 = .ok (.aload_n 0, 1) := by decide +kernel
theorem dX4_atEnd_1 : decode cX4_atEnd 1 = .ok (.getfield 68, 3) := by decide +kernel
theorem dX4_atEnd_4 : decode cX4_atEnd 4 = .ok (.aload_n 0, 1) := by decide +kernel
theorem dX4_atEnd_5 : decode cX4_atEnd 5 = .ok (.getfield 95, 3) := by decide +kernel
theorem dX4_atEnd_8 : decode cX4_atEnd 8 = .ok (.iconst 1, 1) := by decide +kernel
theorem dX4_atEnd_9 : decode cX4_atEnd 9 = .ok (.isub, 1) := by decide +kernel
theorem dX4_atEnd_10 : decode cX4_atEnd 10 = .ok (.iaload, 1) := by decide +kernel
theorem dX4_atEnd_11 : decode cX4_atEnd 11 = .ok (.ifCond .ne 27, 3) := by decide +kernel
theorem dX4_atEnd_14 : decode cX4_atEnd 14 = .ok (.aload_n 0, 1) := by decide +kernel
theorem dX4_atEnd_15 : decode cX4_atEnd 15 = .ok (.getfield 174, 3) := by decide +kernel
theorem dX4_atEnd_18 : decode cX4_atEnd 18 = .ok (.aload_n 0, 1) := by decide +kernel
theorem dX4_atEnd_19 : decode cX4_atEnd 19 = .ok (.getfield 74, 3) := by decide +kernel
theorem dX4_atEnd_22 : decode cX4_atEnd 22 = .ok (.aload_n 0, 1) := by decide +kernel
theorem dX4_atEnd_23 : decode cX4_atEnd 23 = .ok (.getfield 95, 3) := by decide +kernel
theorem dX4_atEnd_26 : decode cX4_atEnd 26 = .ok (.iconst 1, 1) := by decide +kernel
theorem dX4_atEnd_27 : decode cX4_atEnd 27 = .ok (.isub, 1) := by decide +kernel
theorem dX4_atEnd_28 : decode cX4_atEnd 28 = .ok (.iaload, 1) := by decide +kernel
theorem dX4_atEnd_29 : decode cX4_atEnd 29 = .ok (.if_icmp .ne 7, 3) := by decide +kernel
theorem dX4_atEnd_32 : decode cX4_atEnd 32 = .ok (.iconst 1, 1) := by decide +kernel
theorem dX4_atEnd_33 : decode cX4_atEnd 33 = .ok (.goto 4, 3) := by decide +kernel
theorem dX4_atEnd_36 : decode cX4_atEnd 36 = .ok (.iconst 0, 1) := by decide +kernel
theorem dX4_atEnd_37 : decode cX4_atEnd 37 = .ok (.ireturn, 1) := by decide +kernel
theorem dX4_atEnd_38 : decode cX4_atEnd 38 = .ok (.aload_n 0, 1) := by decide +kernel
theorem dX4_atEnd_39 : decode cX4_atEnd 39 = .ok (.getfield 7, 3) := by decide +kernel
theorem dX4_atEnd_42 : decode cX4_atEnd 42 = .ok (.aload_n 0, 1) := by decide +kernel
theorem dX4_atEnd_43 : decode cX4_atEnd 43 = .ok (.getfield 174, 3) := by decide +kernel
theorem dX4_atEnd_46 : decode cX4_atEnd 46 = .ok (.iaload, 1) := by decide +kernel
theorem dX4_atEnd_47 : decode cX4_atEnd 47 = .ok (.istore_n 1, 1) := by decide +kernel
theorem dX4_atEnd_48 : decode cX4_atEnd 48 = .ok (.iload_n 1, 1) := by decide +kernel
theorem dX4_atEnd_49 : decode cX4_atEnd 49 = .ok (.bipush 11, 2) := by decide +kernel
theorem dX4_atEnd_51 : decode cX4_atEnd 51 = .ok (.if_icmp .eq 21, 3) := by decide +kernel
theorem dX4_atEnd_54 : decode cX4_atEnd 54 = .ok (.iload_n 1, 1) := by decide +kernel
theorem dX4_atEnd_55 : decode cX4_atEnd 55 = .ok (.bipush 12, 2) := by decide +kernel
theorem dX4_atEnd_57 : decode cX4_atEnd 57 = .ok (.if_icmp .eq 15, 3) := by decide +kernel
theorem dX4_atEnd_60 : decode cX4_atEnd 60 = .ok (.iload_n 1, 1) := by decide +kernel
theorem dX4_atEnd_61 : decode cX4_atEnd 61 = .ok (.bipush 22, 2) := by decide +kernel
theorem dX4_atEnd_63 : decode cX4_atEnd 63 = .ok (.if_icmp .eq 9, 3) := by decide +kernel
theorem dX4_atEnd_66 : decode cX4_atEnd 66 = .ok (.iload_n 1, 1) := by decide +kernel
theorem dX4_atEnd_67 : decode cX4_atEnd 67 = .ok (.bipush 16, 2) := by decide +kernel
theorem dX4_atEnd_69 : decode cX4_atEnd 69 = .ok (.if_icmp .ne 7, 3) := by decide +kernel
theorem dX4_atEnd_72 : decode cX4_atEnd 72 = .ok (.iconst 1, 1) := by decide +kernel
theorem dX4_atEnd_73 : decode cX4_atEnd 73 = .ok (.goto 4, 3) := by decide +kernel
theorem dX4_atEnd_76 : decode cX4_atEnd 76 = .ok (.iconst 0, 1) := by decide +kernel
theorem dX4_atEnd_77 : decode cX4_atEnd 77 = .ok (.ireturn, 1) := by decide +kernel
theorem dX4_settle_0 : decode cX4_settle 0 = .ok (.iconst 0, 1) := by decide +kernel
theorem dX4_settle_1 : decode cX4_settle 1 = .ok (.istore_n 1, 1) := by decide +kernel
theorem dX4_settle_2 : decode cX4_settle 2 = .ok (.iload_n 1, 1) := by decide +kernel
theorem dX4_settle_3 : decode cX4_settle 3 = .ok (.iconst 4, 1) := by decide +kernel
theorem dX4_settle_4 : decode cX4_settle 4 = .ok (.if_icmp .ge 43, 3) := by decide +kernel
theorem dX4_settle_7 : decode cX4_settle 7 = .ok (.aload_n 0, 1) := by decide +kernel
theorem dX4_settle_8 : decode cX4_settle 8 = .ok (.getfield 41, 3) := by decide +kernel
theorem dX4_settle_11 : decode cX4_settle 11 = .ok (.iload_n 1, 1) := by decide +kernel
theorem dX4_settle_12 : decode cX4_settle 12 = .ok (.aload_n 0, 1) := by decide +kernel
theorem dX4_settle_13 : decode cX4_settle 13 = .ok (.getfield 35, 3) := by decide +kernel
theorem dX4_settle_16 : decode cX4_settle 16 = .ok (.aload_n 0, 1) := by decide +kernel
theorem dX4_settle_17 : decode cX4_settle 17 = .ok (.getfield 32, 3) := by decide +kernel
theorem dX4_settle_20 : decode cX4_settle 20 = .ok (.iload_n 1, 1) := by decide +kernel
theorem dX4_settle_21 : decode cX4_settle 21 = .ok (.iaload, 1) := by decide +kernel
theorem dX4_settle_22 : decode cX4_settle 22 = .ok (.iaload, 1) := by decide +kernel
theorem dX4_settle_23 : decode cX4_settle 23 = .ok (.iastore, 1) := by decide +kernel
theorem dX4_settle_24 : decode cX4_settle 24 = .ok (.aload_n 0, 1) := by decide +kernel
theorem dX4_settle_25 : decode cX4_settle 25 = .ok (.getfield 44, 3) := by decide +kernel
theorem dX4_settle_28 : decode cX4_settle 28 = .ok (.iload_n 1, 1) := by decide +kernel
theorem dX4_settle_29 : decode cX4_settle 29 = .ok (.aload_n 0, 1) := by decide +kernel
theorem dX4_settle_30 : decode cX4_settle 30 = .ok (.getfield 38, 3) := by decide +kernel
theorem dX4_settle_33 : decode cX4_settle 33 = .ok (.aload_n 0, 1) := by decide +kernel
theorem dX4_settle_34 : decode cX4_settle 34 = .ok (.getfield 32, 3) := by decide +kernel
theorem dX4_settle_37 : decode cX4_settle 37 = .ok (.iload_n 1, 1) := by decide +kernel
theorem dX4_settle_38 : decode cX4_settle 38 = .ok (.iaload, 1) := by decide +kernel
theorem dX4_settle_39 : decode cX4_settle 39 = .ok (.iaload, 1) := by decide +kernel
theorem dX4_settle_40 : decode cX4_settle 40 = .ok (.iastore, 1) := by decide +kernel
theorem dX4_settle_41 : decode cX4_settle 41 = .ok (.iinc 1 1, 3) := by decide +kernel
theorem dX4_settle_44 : decode cX4_settle 44 = .ok (.goto (-42), 3) := by decide +kernel
theorem dX4_settle_47 : decode cX4_settle 47 = .ok (.iconst 0, 1) := by decide +kernel
theorem dX4_settle_48 : decode cX4_settle 48 = .ok (.istore_n 1, 1) := by decide +kernel
theorem dX4_settle_49 : decode cX4_settle 49 = .ok (.iload_n 1, 1) := by decide +kernel
theorem dX4_settle_50 : decode cX4_settle 50 = .ok (.iconst 4, 1) := by decide +kernel
theorem dX4_settle_51 : decode cX4_settle 51 = .ok (.if_icmp .ge 59, 3) := by decide +kernel
theorem dX4_settle_54 : decode cX4_settle 54 = .ok (.aload_n 0, 1) := by decide +kernel
theorem dX4_settle_55 : decode cX4_settle 55 = .ok (.getfield 35, 3) := by decide +kernel
theorem dX4_settle_58 : decode cX4_settle 58 = .ok (.iload_n 1, 1) := by decide +kernel
theorem dX4_settle_59 : decode cX4_settle 59 = .ok (.iconst 1, 1) := by decide +kernel
theorem dX4_settle_60 : decode cX4_settle 60 = .ok (.iadd, 1) := by decide +kernel
theorem dX4_settle_61 : decode cX4_settle 61 = .ok (.aload_n 0, 1) := by decide +kernel
theorem dX4_settle_62 : decode cX4_settle 62 = .ok (.getfield 41, 3) := by decide +kernel
theorem dX4_settle_65 : decode cX4_settle 65 = .ok (.iload_n 1, 1) := by decide +kernel
theorem dX4_settle_66 : decode cX4_settle 66 = .ok (.iaload, 1) := by decide +kernel
theorem dX4_settle_67 : decode cX4_settle 67 = .ok (.iastore, 1) := by decide +kernel
theorem dX4_settle_68 : decode cX4_settle 68 = .ok (.aload_n 0, 1) := by decide +kernel
theorem dX4_settle_69 : decode cX4_settle 69 = .ok (.getfield 38, 3) := by decide +kernel
theorem dX4_settle_72 : decode cX4_settle 72 = .ok (.iload_n 1, 1) := by decide +kernel
theorem dX4_settle_73 : decode cX4_settle 73 = .ok (.iconst 1, 1) := by decide +kernel
theorem dX4_settle_74 : decode cX4_settle 74 = .ok (.iadd, 1) := by decide +kernel
theorem dX4_settle_75 : decode cX4_settle 75 = .ok (.aload_n 0, 1) := by decide +kernel
theorem dX4_settle_76 : decode cX4_settle 76 = .ok (.getfield 44, 3) := by decide +kernel
theorem dX4_settle_79 : decode cX4_settle 79 = .ok (.iload_n 1, 1) := by decide +kernel
theorem dX4_settle_80 : decode cX4_settle 80 = .ok (.iaload, 1) := by decide +kernel
theorem dX4_settle_81 : decode cX4_settle 81 = .ok (.iastore, 1) := by decide +kernel
theorem dX4_settle_82 : decode cX4_settle 82 = .ok (.aload_n 0, 1) := by decide +kernel
theorem dX4_settle_83 : decode cX4_settle 83 = .ok (.getfield 32, 3) := by decide +kernel
theorem dX4_settle_86 : decode cX4_settle 86 = .ok (.iload_n 1, 1) := by decide +kernel
theorem dX4_settle_87 : decode cX4_settle 87 = .ok (.aload_n 0, 1) := by decide +kernel
theorem dX4_settle_88 : decode cX4_settle 88 = .ok (.getfield 32, 3) := by decide +kernel
theorem dX4_settle_91 : decode cX4_settle 91 = .ok (.iload_n 1, 1) := by decide +kernel
theorem dX4_settle_92 : decode cX4_settle 92 = .ok (.iaload, 1) := by decide +kernel
theorem dX4_settle_93 : decode cX4_settle 93 = .ok (.ifCond .ne 7, 3) := by decide +kernel
theorem dX4_settle_96 : decode cX4_settle 96 = .ok (.iconst 0, 1) := by decide +kernel
theorem dX4_settle_97 : decode cX4_settle 97 = .ok (.goto 6, 3) := by decide +kernel
theorem dX4_settle_100 : decode cX4_settle 100 = .ok (.iload_n 1, 1) := by decide +kernel
theorem dX4_settle_101 : decode cX4_settle 101 = .ok (.iconst 1, 1) := by decide +kernel
theorem dX4_settle_102 : decode cX4_settle 102 = .ok (.iadd, 1) := by decide +kernel
theorem dX4_settle_103 : decode cX4_settle 103 = .ok (.iastore, 1) := by decide +kernel
theorem dX4_settle_104 : decode cX4_settle 104 = .ok (.iinc 1 1, 3) := by decide +kernel
theorem dX4_settle_107 : decode cX4_settle 107 = .ok (.goto (-58), 3) := by decide +kernel
theorem dX4_settle_110 : decode cX4_settle 110 = .ok (.aload_n 0, 1) := by decide +kernel
theorem dX4_settle_111 : decode cX4_settle 111 = .ok (.iconst 5, 1) := by decide +kernel
theorem dX4_settle_112 : decode cX4_settle 112 = .ok (.putfield 47, 3) := by decide +kernel
theorem dX4_settle_115 : decode cX4_settle 115 = .ok (.return_, 1) := by decide +kernel
theorem dX4_run_0 : decode cX4_run 0 = .ok (.iload_n 1, 1) := by decide +kernel
theorem dX4_run_1 : decode cX4_run 1 = .ok (.bipush 7, 2) := by decide +kernel
theorem dX4_run_3 : decode cX4_run 3 = .ok (.invokestatic 105, 3) := by decide +kernel
theorem dX4_run_6 : decode cX4_run 6 = .ok (.ifCond .ne 9, 3) := by decide +kernel
theorem dX4_run_9 : decode cX4_run 9 = .ok (.aload_n 0, 1) := by decide +kernel
theorem dX4_run_10 : decode cX4_run 10 = .ok (.iconst 1, 1) := by decide +kernel
theorem dX4_run_11 : decode cX4_run 11 = .ok (.invokevirtual 113, 3) := by decide +kernel
theorem dX4_run_14 : decode cX4_run 14 = .ok (.ireturn, 1) := by decide +kernel
theorem dX4_run_15 : decode cX4_run 15 = .ok (.aload_n 0, 1) := by decide +kernel
theorem dX4_run_16 : decode cX4_run 16 = .ok (.iload_n 1, 1) := by decide +kernel
theorem dX4_run_17 : decode cX4_run 17 = .ok (.invokevirtual 203, 3) := by decide +kernel
theorem dX4_run_20 : decode cX4_run 20 = .ok (.ifCond .eq 9, 3) := by decide +kernel
theorem dX4_run_23 : decode cX4_run 23 = .ok (.aload_n 0, 1) := by decide +kernel
theorem dX4_run_24 : decode cX4_run 24 = .ok (.iconst 2, 1) := by decide +kernel
theorem dX4_run_25 : decode cX4_run 25 = .ok (.invokevirtual 113, 3) := by decide +kernel
theorem dX4_run_28 : decode cX4_run 28 = .ok (.ireturn, 1) := by decide +kernel
theorem dX4_run_29 : decode cX4_run 29 = .ok (.aload_n 0, 1) := by decide +kernel
theorem dX4_run_30 : decode cX4_run 30 = .ok (.iconst 0, 1) := by decide +kernel
theorem dX4_run_31 : decode cX4_run 31 = .ok (.putfield 92, 3) := by decide +kernel
theorem dX4_run_34 : decode cX4_run 34 = .ok (.aload_n 0, 1) := by decide +kernel
theorem dX4_run_35 : decode cX4_run 35 = .ok (.iconst 0, 1) := by decide +kernel
theorem dX4_run_36 : decode cX4_run 36 = .ok (.putfield 145, 3) := by decide +kernel
theorem dX4_run_39 : decode cX4_run 39 = .ok (.aload_n 0, 1) := by decide +kernel
theorem dX4_run_40 : decode cX4_run 40 = .ok (.iconst 0, 1) := by decide +kernel
theorem dX4_run_41 : decode cX4_run 41 = .ok (.putfield 139, 3) := by decide +kernel
theorem dX4_run_44 : decode cX4_run 44 = .ok (.aload_n 0, 1) := by decide +kernel
theorem dX4_run_45 : decode cX4_run 45 = .ok (.iconst 0, 1) := by decide +kernel
theorem dX4_run_46 : decode cX4_run 46 = .ok (.putfield 127, 3) := by decide +kernel
theorem dX4_run_49 : decode cX4_run 49 = .ok (.aload_n 0, 1) := by decide +kernel
theorem dX4_run_50 : decode cX4_run 50 = .ok (.iconst 0, 1) := by decide +kernel
theorem dX4_run_51 : decode cX4_run 51 = .ok (.putfield 130, 3) := by decide +kernel
theorem dX4_run_54 : decode cX4_run 54 = .ok (.aload_n 0, 1) := by decide +kernel
theorem dX4_run_55 : decode cX4_run 55 = .ok (.iconst 1, 1) := by decide +kernel
theorem dX4_run_56 : decode cX4_run 56 = .ok (.putfield 200, 3) := by decide +kernel
theorem dX4_run_59 : decode cX4_run 59 = .ok (.aload_n 0, 1) := by decide +kernel
theorem dX4_run_60 : decode cX4_run 60 = .ok (.iconst 0, 1) := by decide +kernel
theorem dX4_run_61 : decode cX4_run 61 = .ok (.putfield 171, 3) := by decide +kernel
theorem dX4_run_64 : decode cX4_run 64 = .ok (.aload_n 0, 1) := by decide +kernel
theorem dX4_run_65 : decode cX4_run 65 = .ok (.iconst 0, 1) := by decide +kernel
theorem dX4_run_66 : decode cX4_run 66 = .ok (.putfield 95, 3) := by decide +kernel
theorem dX4_run_69 : decode cX4_run 69 = .ok (.aload_n 0, 1) := by decide +kernel
theorem dX4_run_70 : decode cX4_run 70 = .ok (.iconst 0, 1) := by decide +kernel
theorem dX4_run_71 : decode cX4_run 71 = .ok (.putfield 197, 3) := by decide +kernel
theorem dX4_run_74 : decode cX4_run 74 = .ok (.aload_n 0, 1) := by decide +kernel
theorem dX4_run_75 : decode cX4_run 75 = .ok (.dup, 1) := by decide +kernel
theorem dX4_run_76 : decode cX4_run 76 = .ok (.getfield 227, 3) := by decide +kernel
theorem dX4_run_79 : decode cX4_run 79 = .ok (.iconst 1, 1) := by decide +kernel
theorem dX4_run_80 : decode cX4_run 80 = .ok (.iadd, 1) := by decide +kernel
theorem dX4_run_81 : decode cX4_run 81 = .ok (.putfield 227, 3) := by decide +kernel
theorem dX4_run_84 : decode cX4_run 84 = .ok (.aload_n 0, 1) := by decide +kernel
theorem dX4_run_85 : decode cX4_run 85 = .ok (.invokevirtual 230, 3) := by decide +kernel
theorem dX4_run_88 : decode cX4_run 88 = .ok (.aload_n 0, 1) := by decide +kernel
theorem dX4_run_89 : decode cX4_run 89 = .ok (.iconst 0, 1) := by decide +kernel
theorem dX4_run_90 : decode cX4_run 90 = .ok (.iconst 0, 1) := by decide +kernel
theorem dX4_run_91 : decode cX4_run 91 = .ok (.bipush 60, 2) := by decide +kernel
theorem dX4_run_93 : decode cX4_run 93 = .ok (.iload_n 1, 1) := by decide +kernel
theorem dX4_run_94 : decode cX4_run 94 = .ok (.imul, 1) := by decide +kernel
theorem dX4_run_95 : decode cX4_run 95 = .ok (.aload_n 0, 1) := by decide +kernel
theorem dX4_run_96 : decode cX4_run 96 = .ok (.getfield 19, 3) := by decide +kernel
theorem dX4_run_99 : decode cX4_run 99 = .ok (.iload_n 1, 1) := by decide +kernel
theorem dX4_run_100 : decode cX4_run 100 = .ok (.iaload, 1) := by decide +kernel
theorem dX4_run_101 : decode cX4_run 101 = .ok (.iadd, 1) := by decide +kernel
theorem dX4_run_102 : decode cX4_run 102 = .ok (.invokevirtual 180, 3) := by decide +kernel
theorem dX4_run_105 : decode cX4_run 105 = .ok (.aload_n 0, 1) := by decide +kernel
theorem dX4_run_106 : decode cX4_run 106 = .ok (.bipush 60, 2) := by decide +kernel
theorem dX4_run_108 : decode cX4_run 108 = .ok (.iload_n 1, 1) := by decide +kernel
theorem dX4_run_109 : decode cX4_run 109 = .ok (.imul, 1) := by decide +kernel
theorem dX4_run_110 : decode cX4_run 110 = .ok (.putfield 174, 3) := by decide +kernel
theorem dX4_run_113 : decode cX4_run 113 = .ok (.aload_n 0, 1) := by decide +kernel
theorem dX4_run_114 : decode cX4_run 114 = .ok (.getfield 95, 3) := by decide +kernel
theorem dX4_run_117 : decode cX4_run 117 = .ok (.ifCond .le 31, 3) := by decide +kernel
theorem dX4_run_120 : decode cX4_run 120 = .ok (.aload_n 0, 1) := by decide +kernel
theorem dX4_run_121 : decode cX4_run 121 = .ok (.getfield 197, 3) := by decide +kernel
theorem dX4_run_124 : decode cX4_run 124 = .ok (.ifCond .ne 10, 3) := by decide +kernel
theorem dX4_run_127 : decode cX4_run 127 = .ok (.aload_n 0, 1) := by decide +kernel
theorem dX4_run_128 : decode cX4_run 128 = .ok (.invokevirtual 233, 3) := by decide +kernel
theorem dX4_run_131 : decode cX4_run 131 = .ok (.ifCond .eq 10, 3) := by decide +kernel
theorem dX4_run_134 : decode cX4_run 134 = .ok (.aload_n 0, 1) := by decide +kernel
theorem dX4_run_135 : decode cX4_run 135 = .ok (.invokevirtual 236, 3) := by decide +kernel
theorem dX4_run_138 : decode cX4_run 138 = .ok (.goto (-25), 3) := by decide +kernel
theorem dX4_run_141 : decode cX4_run 141 = .ok (.aload_n 0, 1) := by decide +kernel
theorem dX4_run_142 : decode cX4_run 142 = .ok (.invokevirtual 239, 3) := by decide +kernel
theorem dX4_run_145 : decode cX4_run 145 = .ok (.goto (-32), 3) := by decide +kernel
theorem dX4_run_148 : decode cX4_run 148 = .ok (.aload_n 0, 1) := by decide +kernel
theorem dX4_run_149 : decode cX4_run 149 = .ok (.aload_n 0, 1) := by decide +kernel
theorem dX4_run_150 : decode cX4_run 150 = .ok (.getfield 197, 3) := by decide +kernel
theorem dX4_run_153 : decode cX4_run 153 = .ok (.iconst 2, 1) := by decide +kernel
theorem dX4_run_154 : decode cX4_run 154 = .ok (.if_icmp .ne 10, 3) := by decide +kernel
theorem dX4_run_157 : decode cX4_run 157 = .ok (.aload_n 0, 1) := by decide +kernel
theorem dX4_run_158 : decode cX4_run 158 = .ok (.getfield 171, 3) := by decide +kernel
theorem dX4_run_161 : decode cX4_run 161 = .ok (.goto 4, 3) := by decide +kernel
theorem dX4_run_164 : decode cX4_run 164 = .ok (.iconst 0, 1) := by decide +kernel
theorem dX4_run_165 : decode cX4_run 165 = .ok (.putfield 242, 3) := by decide +kernel
theorem dX4_run_168 : decode cX4_run 168 = .ok (.aload_n 0, 1) := by decide +kernel
theorem dX4_run_169 : decode cX4_run 169 = .ok (.getfield 197, 3) := by decide +kernel
theorem dX4_run_172 : decode cX4_run 172 = .ok (.ifCond .ne 7, 3) := by decide +kernel
theorem dX4_run_175 : decode cX4_run 175 = .ok (.iconst 0, 1) := by decide +kernel
theorem dX4_run_176 : decode cX4_run 176 = .ok (.goto 33, 3) := by decide +kernel
theorem dX4_run_179 : decode cX4_run 179 = .ok (.aload_n 0, 1) := by decide +kernel
theorem dX4_run_180 : decode cX4_run 180 = .ok (.getfield 197, 3) := by decide +kernel
theorem dX4_run_183 : decode cX4_run 183 = .ok (.iconst 2, 1) := by decide +kernel
theorem dX4_run_184 : decode cX4_run 184 = .ok (.if_icmp .ne 7, 3) := by decide +kernel
theorem dX4_run_187 : decode cX4_run 187 = .ok (.iconst 1, 1) := by decide +kernel
theorem dX4_run_188 : decode cX4_run 188 = .ok (.goto 21, 3) := by decide +kernel
theorem dX4_run_191 : decode cX4_run 191 = .ok (.aload_n 0, 1) := by decide +kernel
theorem dX4_run_192 : decode cX4_run 192 = .ok (.getfield 197, 3) := by decide +kernel
theorem dX4_run_195 : decode cX4_run 195 = .ok (.iconst 1, 1) := by decide +kernel
theorem dX4_run_196 : decode cX4_run 196 = .ok (.if_icmp .ne 12, 3) := by decide +kernel
theorem dX4_run_199 : decode cX4_run 199 = .ok (.iconst 2, 1) := by decide +kernel
theorem dX4_run_200 : decode cX4_run 200 = .ok (.aload_n 0, 1) := by decide +kernel
theorem dX4_run_201 : decode cX4_run 201 = .ok (.getfield 142, 3) := by decide +kernel
theorem dX4_run_204 : decode cX4_run 204 = .ok (.iadd, 1) := by decide +kernel
theorem dX4_run_205 : decode cX4_run 205 = .ok (.goto 4, 3) := by decide +kernel
theorem dX4_run_208 : decode cX4_run 208 = .ok (.iconst (-1), 1) := by decide +kernel
theorem dX4_run_209 : decode cX4_run 209 = .ok (.ireturn, 1) := by decide +kernel
theorem dX4_given_0 : decode cX4_given 0 = .ok (.aload_n 0, 1) := by decide +kernel
theorem dX4_given_1 : decode cX4_given 1 = .ok (.iconst 0, 1) := by decide +kernel
theorem dX4_given_2 : decode cX4_given 2 = .ok (.putfield 92, 3) := by decide +kernel
theorem dX4_given_5 : decode cX4_given 5 = .ok (.aload_n 0, 1) := by decide +kernel
theorem dX4_given_6 : decode cX4_given 6 = .ok (.getfield 242, 3) := by decide +kernel
theorem dX4_given_9 : decode cX4_given 9 = .ok (.ireturn, 1) := by decide +kernel
theorem dX4_number_0 : decode cX4_number 0 = .ok (.iload_n 1, 1) := by decide +kernel
theorem dX4_number_1 : decode cX4_number 1 = .ok (.bipush 7, 2) := by decide +kernel
theorem dX4_number_3 : decode cX4_number 3 = .ok (.invokestatic 105, 3) := by decide +kernel
theorem dX4_number_6 : decode cX4_number 6 = .ok (.ifCond .ne 9, 3) := by decide +kernel
theorem dX4_number_9 : decode cX4_number 9 = .ok (.aload_n 0, 1) := by decide +kernel
theorem dX4_number_10 : decode cX4_number 10 = .ok (.iconst 1, 1) := by decide +kernel
theorem dX4_number_11 : decode cX4_number 11 = .ok (.invokevirtual 113, 3) := by decide +kernel
theorem dX4_number_14 : decode cX4_number 14 = .ok (.ireturn, 1) := by decide +kernel
theorem dX4_number_15 : decode cX4_number 15 = .ok (.aload_n 0, 1) := by decide +kernel
theorem dX4_number_16 : decode cX4_number 16 = .ok (.iconst 0, 1) := by decide +kernel
theorem dX4_number_17 : decode cX4_number 17 = .ok (.putfield 92, 3) := by decide +kernel
theorem dX4_number_20 : decode cX4_number 20 = .ok (.aload_n 0, 1) := by decide +kernel
theorem dX4_number_21 : decode cX4_number 21 = .ok (.getfield 22, 3) := by decide +kernel
theorem dX4_number_24 : decode cX4_number 24 = .ok (.iload_n 1, 1) := by decide +kernel
theorem dX4_number_25 : decode cX4_number 25 = .ok (.iaload, 1) := by decide +kernel
theorem dX4_number_26 : decode cX4_number 26 = .ok (.ireturn, 1) := by decide +kernel
theorem dX4_row_0 : decode cX4_row 0 = .ok (.iload_n 1, 1) := by decide +kernel
theorem dX4_row_1 : decode cX4_row 1 = .ok (.ifCond .lt 11, 3) := by decide +kernel
theorem dX4_row_4 : decode cX4_row 4 = .ok (.iload_n 1, 1) := by decide +kernel
theorem dX4_row_5 : decode cX4_row 5 = .ok (.aload_n 0, 1) := by decide +kernel
theorem dX4_row_6 : decode cX4_row 6 = .ok (.getfield 28, 3) := by decide +kernel
theorem dX4_row_9 : decode cX4_row 9 = .ok (.if_icmp .lt 9, 3) := by decide +kernel
theorem dX4_row_12 : decode cX4_row 12 = .ok (.aload_n 0, 1) := by decide +kernel
theorem dX4_row_13 : decode cX4_row 13 = .ok (.iconst 1, 1) := by decide +kernel
theorem dX4_row_14 : decode cX4_row 14 = .ok (.invokevirtual 113, 3) := by decide +kernel
theorem dX4_row_17 : decode cX4_row 17 = .ok (.ireturn, 1) := by decide +kernel
theorem dX4_row_18 : decode cX4_row 18 = .ok (.aload_n 0, 1) := by decide +kernel
theorem dX4_row_19 : decode cX4_row 19 = .ok (.iconst 0, 1) := by decide +kernel
theorem dX4_row_20 : decode cX4_row 20 = .ok (.putfield 92, 3) := by decide +kernel
theorem dX4_row_23 : decode cX4_row 23 = .ok (.aload_n 0, 1) := by decide +kernel
theorem dX4_row_24 : decode cX4_row 24 = .ok (.getfield 25, 3) := by decide +kernel
theorem dX4_row_27 : decode cX4_row 27 = .ok (.iload_n 1, 1) := by decide +kernel
theorem dX4_row_28 : decode cX4_row 28 = .ok (.iaload, 1) := by decide +kernel
theorem dX4_row_29 : decode cX4_row 29 = .ok (.ireturn, 1) := by decide +kernel
theorem dX4_log_0 : decode cX4_log 0 = .ok (.iload_n 1, 1) := by decide +kernel
theorem dX4_log_1 : decode cX4_log 1 = .ok (.ifCond .lt 11, 3) := by decide +kernel
theorem dX4_log_4 : decode cX4_log 4 = .ok (.iload_n 1, 1) := by decide +kernel
theorem dX4_log_5 : decode cX4_log 5 = .ok (.aload_n 0, 1) := by decide +kernel
theorem dX4_log_6 : decode cX4_log 6 = .ok (.getfield 145, 3) := by decide +kernel
theorem dX4_log_9 : decode cX4_log 9 = .ok (.if_icmp .lt 9, 3) := by decide +kernel
theorem dX4_log_12 : decode cX4_log 12 = .ok (.aload_n 0, 1) := by decide +kernel
theorem dX4_log_13 : decode cX4_log 13 = .ok (.iconst 1, 1) := by decide +kernel
theorem dX4_log_14 : decode cX4_log 14 = .ok (.invokevirtual 113, 3) := by decide +kernel
theorem dX4_log_17 : decode cX4_log 17 = .ok (.ireturn, 1) := by decide +kernel
theorem dX4_log_18 : decode cX4_log 18 = .ok (.aload_n 0, 1) := by decide +kernel
theorem dX4_log_19 : decode cX4_log 19 = .ok (.iconst 0, 1) := by decide +kernel
theorem dX4_log_20 : decode cX4_log 20 = .ok (.putfield 92, 3) := by decide +kernel
theorem dX4_log_23 : decode cX4_log 23 = .ok (.aload_n 0, 1) := by decide +kernel
theorem dX4_log_24 : decode cX4_log 24 = .ok (.getfield 50, 3) := by decide +kernel
theorem dX4_log_27 : decode cX4_log 27 = .ok (.iload_n 1, 1) := by decide +kernel
theorem dX4_log_28 : decode cX4_log 28 = .ok (.iaload, 1) := by decide +kernel
theorem dX4_log_29 : decode cX4_log 29 = .ok (.ireturn, 1) := by decide +kernel
theorem dX4_count_0 : decode cX4_count 0 = .ok (.aload_n 0, 1) := by decide +kernel
theorem dX4_count_1 : decode cX4_count 1 = .ok (.iconst 0, 1) := by decide +kernel
theorem dX4_count_2 : decode cX4_count 2 = .ok (.putfield 92, 3) := by decide +kernel
theorem dX4_count_5 : decode cX4_count 5 = .ok (.iconst 0, 1) := by decide +kernel
theorem dX4_count_6 : decode cX4_count 6 = .ok (.istore_n 2, 1) := by decide +kernel
theorem dX4_count_7 : decode cX4_count 7 = .ok (.iload_n 1, 1) := by decide +kernel
theorem dX4_count_8 : decode cX4_count 8 = .ok (.tableswitch 158 0 13 #[72, 77, 82, 87, 92, 97, 122, 158, 158, 158, 127, 127, 127, 127], 72) := by decide +kernel
theorem dX4_count_80 : decode cX4_count 80 = .ok (.aload_n 0, 1) := by decide +kernel
theorem dX4_count_81 : decode cX4_count 81 = .ok (.getfield 28, 3) := by decide +kernel
theorem dX4_count_84 : decode cX4_count 84 = .ok (.ireturn, 1) := by decide +kernel
theorem dX4_count_85 : decode cX4_count 85 = .ok (.aload_n 0, 1) := by decide +kernel
theorem dX4_count_86 : decode cX4_count 86 = .ok (.getfield 145, 3) := by decide +kernel
theorem dX4_count_89 : decode cX4_count 89 = .ok (.ireturn, 1) := by decide +kernel
theorem dX4_count_90 : decode cX4_count 90 = .ok (.aload_n 0, 1) := by decide +kernel
theorem dX4_count_91 : decode cX4_count 91 = .ok (.getfield 139, 3) := by decide +kernel
theorem dX4_count_94 : decode cX4_count 94 = .ok (.ireturn, 1) := by decide +kernel
theorem dX4_count_95 : decode cX4_count 95 = .ok (.aload_n 0, 1) := by decide +kernel
theorem dX4_count_96 : decode cX4_count 96 = .ok (.getfield 133, 3) := by decide +kernel
theorem dX4_count_99 : decode cX4_count 99 = .ok (.ireturn, 1) := by decide +kernel
theorem dX4_count_100 : decode cX4_count 100 = .ok (.aload_n 0, 1) := by decide +kernel
theorem dX4_count_101 : decode cX4_count 101 = .ok (.getfield 136, 3) := by decide +kernel
theorem dX4_count_104 : decode cX4_count 104 = .ok (.ireturn, 1) := by decide +kernel
theorem dX4_count_105 : decode cX4_count 105 = .ok (.iconst 0, 1) := by decide +kernel
theorem dX4_count_106 : decode cX4_count 106 = .ok (.istore_n 3, 1) := by decide +kernel
theorem dX4_count_107 : decode cX4_count 107 = .ok (.iload_n 3, 1) := by decide +kernel
theorem dX4_count_108 : decode cX4_count 108 = .ok (.bipush 8, 2) := by decide +kernel
theorem dX4_count_110 : decode cX4_count 110 = .ok (.if_icmp .ge 18, 3) := by decide +kernel
theorem dX4_count_113 : decode cX4_count 113 = .ok (.iload_n 2, 1) := by decide +kernel
theorem dX4_count_114 : decode cX4_count 114 = .ok (.aload_n 0, 1) := by decide +kernel
theorem dX4_count_115 : decode cX4_count 115 = .ok (.getfield 19, 3) := by decide +kernel
theorem dX4_count_118 : decode cX4_count 118 = .ok (.iload_n 3, 1) := by decide +kernel
theorem dX4_count_119 : decode cX4_count 119 = .ok (.iaload, 1) := by decide +kernel
theorem dX4_count_120 : decode cX4_count 120 = .ok (.iadd, 1) := by decide +kernel
theorem dX4_count_121 : decode cX4_count 121 = .ok (.istore_n 2, 1) := by decide +kernel
theorem dX4_count_122 : decode cX4_count 122 = .ok (.iinc 3 1, 3) := by decide +kernel
theorem dX4_count_125 : decode cX4_count 125 = .ok (.goto (-18), 3) := by decide +kernel
theorem dX4_count_128 : decode cX4_count 128 = .ok (.iload_n 2, 1) := by decide +kernel
theorem dX4_count_129 : decode cX4_count 129 = .ok (.ireturn, 1) := by decide +kernel
theorem dX4_count_130 : decode cX4_count 130 = .ok (.aload_n 0, 1) := by decide +kernel
theorem dX4_count_131 : decode cX4_count 131 = .ok (.getfield 227, 3) := by decide +kernel
theorem dX4_count_134 : decode cX4_count 134 = .ok (.ireturn, 1) := by decide +kernel
theorem dX4_count_135 : decode cX4_count 135 = .ok (.aload_n 0, 1) := by decide +kernel
theorem dX4_count_136 : decode cX4_count 136 = .ok (.getfield 32, 3) := by decide +kernel
theorem dX4_count_139 : decode cX4_count 139 = .ok (.iload_n 1, 1) := by decide +kernel
theorem dX4_count_140 : decode cX4_count 140 = .ok (.bipush 10, 2) := by decide +kernel
theorem dX4_count_142 : decode cX4_count 142 = .ok (.isub, 1) := by decide +kernel
theorem dX4_count_143 : decode cX4_count 143 = .ok (.iaload, 1) := by decide +kernel
theorem dX4_count_144 : decode cX4_count 144 = .ok (.ifCond .ne 7, 3) := by decide +kernel
theorem dX4_count_147 : decode cX4_count 147 = .ok (.iconst 0, 1) := by decide +kernel
theorem dX4_count_148 : decode cX4_count 148 = .ok (.goto 17, 3) := by decide +kernel
theorem dX4_count_151 : decode cX4_count 151 = .ok (.aload_n 0, 1) := by decide +kernel
theorem dX4_count_152 : decode cX4_count 152 = .ok (.getfield 35, 3) := by decide +kernel
theorem dX4_count_155 : decode cX4_count 155 = .ok (.aload_n 0, 1) := by decide +kernel
theorem dX4_count_156 : decode cX4_count 156 = .ok (.getfield 32, 3) := by decide +kernel
theorem dX4_count_159 : decode cX4_count 159 = .ok (.iload_n 1, 1) := by decide +kernel
theorem dX4_count_160 : decode cX4_count 160 = .ok (.bipush 10, 2) := by decide +kernel
theorem dX4_count_162 : decode cX4_count 162 = .ok (.isub, 1) := by decide +kernel
theorem dX4_count_163 : decode cX4_count 163 = .ok (.iaload, 1) := by decide +kernel
theorem dX4_count_164 : decode cX4_count 164 = .ok (.iaload, 1) := by decide +kernel
theorem dX4_count_165 : decode cX4_count 165 = .ok (.ireturn, 1) := by decide +kernel
theorem dX4_count_166 : decode cX4_count 166 = .ok (.iconst (-1), 1) := by decide +kernel
theorem dX4_count_167 : decode cX4_count 167 = .ok (.ireturn, 1) := by decide +kernel
theorem dJ9_max_7cf53_0 : decode cJ9_max_7cf53 0 = .ok (.iload_n 0, 1) := by decide +kernel
theorem dJ9_max_7cf53_1 : decode cJ9_max_7cf53 1 = .ok (.iload_n 1, 1) := by decide +kernel
theorem dJ9_max_7cf53_2 : decode cJ9_max_7cf53 2 = .ok (.if_icmp .lt 7, 3) := by decide +kernel
theorem dJ9_max_7cf53_5 : decode cJ9_max_7cf53 5 = .ok (.iload_n 0, 1) := by decide +kernel
theorem dJ9_max_7cf53_6 : decode cJ9_max_7cf53 6 = .ok (.goto 4, 3) := by decide +kernel
theorem dJ9_max_7cf53_9 : decode cJ9_max_7cf53 9 = .ok (.iload_n 1, 1) := by decide +kernel
theorem dJ9_max_7cf53_10 : decode cJ9_max_7cf53 10 = .ok (.ireturn, 1) := by decide +kernel
theorem dL_node_0 : decode cL_node 0 = .ok (.aload 5, 2) := by decide +kernel
theorem dL_node_2 : decode cL_node 2 = .ok (.iconst 0, 1) := by decide +kernel
theorem dL_node_3 : decode cL_node 3 = .ok (.aload_n 0, 1) := by decide +kernel
theorem dL_node_4 : decode cL_node 4 = .ok (.iload_n 1, 1) := by decide +kernel
theorem dL_node_5 : decode cL_node 5 = .ok (.iload_n 2, 1) := by decide +kernel
theorem dL_node_6 : decode cL_node 6 = .ok (.iload_n 3, 1) := by decide +kernel
theorem dL_node_7 : decode cL_node 7 = .ok (.iload 4, 2) := by decide +kernel
theorem dL_node_9 : decode cL_node 9 = .ok (.invokevirtual 7, 3) := by decide +kernel
theorem dL_node_12 : decode cL_node 12 = .ok (.i2l, 1) := by decide +kernel
theorem dL_node_13 : decode cL_node 13 = .ok (.lastore, 1) := by decide +kernel
theorem dL_node_14 : decode cL_node 14 = .ok (.goto 11, 3) := by decide +kernel
theorem dL_node_17 : decode cL_node 17 = .ok (.astore 6, 2) := by decide +kernel
theorem dL_node_19 : decode cL_node 19 = .ok (.iconst 1, 1) := by decide +kernel
theorem dL_node_20 : decode cL_node 20 = .ok (.ireturn, 1) := by decide +kernel
theorem dL_node_21 : decode cL_node 21 = .ok (.astore 6, 2) := by decide +kernel
theorem dL_node_23 : decode cL_node 23 = .ok (.iconst 2, 1) := by decide +kernel
theorem dL_node_24 : decode cL_node 24 = .ok (.ireturn, 1) := by decide +kernel
theorem dL_node_25 : decode cL_node 25 = .ok (.iconst 0, 1) := by decide +kernel
theorem dL_node_26 : decode cL_node 26 = .ok (.ireturn, 1) := by decide +kernel
theorem dL_clear_0 : decode cL_clear 0 = .ok (.aload_n 0, 1) := by decide +kernel
theorem dL_clear_1 : decode cL_clear 1 = .ok (.iload_n 1, 1) := by decide +kernel
theorem dL_clear_2 : decode cL_clear 2 = .ok (.invokevirtual 17, 3) := by decide +kernel
theorem dL_clear_5 : decode cL_clear 5 = .ok (.goto 6, 3) := by decide +kernel
theorem dL_clear_8 : decode cL_clear 8 = .ok (.astore_n 2, 1) := by decide +kernel
theorem dL_clear_9 : decode cL_clear 9 = .ok (.iconst 1, 1) := by decide +kernel
theorem dL_clear_10 : decode cL_clear 10 = .ok (.ireturn, 1) := by decide +kernel
theorem dL_clear_11 : decode cL_clear 11 = .ok (.iconst 0, 1) := by decide +kernel
theorem dL_clear_12 : decode cL_clear 12 = .ok (.ireturn, 1) := by decide +kernel
theorem dL_run_0 : decode cL_run 0 = .ok (.aload_n 2, 1) := by decide +kernel
theorem dL_run_1 : decode cL_run 1 = .ok (.iconst 0, 1) := by decide +kernel
theorem dL_run_2 : decode cL_run 2 = .ok (.aload_n 0, 1) := by decide +kernel
theorem dL_run_3 : decode cL_run 3 = .ok (.iload_n 1, 1) := by decide +kernel
theorem dL_run_4 : decode cL_run 4 = .ok (.invokevirtual 21, 3) := by decide +kernel
theorem dL_run_7 : decode cL_run 7 = .ok (.i2l, 1) := by decide +kernel
theorem dL_run_8 : decode cL_run 8 = .ok (.lastore, 1) := by decide +kernel
theorem dL_run_9 : decode cL_run 9 = .ok (.goto 9, 3) := by decide +kernel
theorem dL_run_12 : decode cL_run 12 = .ok (.astore_n 3, 1) := by decide +kernel
theorem dL_run_13 : decode cL_run 13 = .ok (.iconst 1, 1) := by decide +kernel
theorem dL_run_14 : decode cL_run 14 = .ok (.ireturn, 1) := by decide +kernel
theorem dL_run_15 : decode cL_run 15 = .ok (.astore_n 3, 1) := by decide +kernel
theorem dL_run_16 : decode cL_run 16 = .ok (.iconst 2, 1) := by decide +kernel
theorem dL_run_17 : decode cL_run 17 = .ok (.ireturn, 1) := by decide +kernel
theorem dL_run_18 : decode cL_run 18 = .ok (.iconst 0, 1) := by decide +kernel
theorem dL_run_19 : decode cL_run 19 = .ok (.ireturn, 1) := by decide +kernel
theorem dL_number_0 : decode cL_number 0 = .ok (.aload_n 2, 1) := by decide +kernel
theorem dL_number_1 : decode cL_number 1 = .ok (.iconst 0, 1) := by decide +kernel
theorem dL_number_2 : decode cL_number 2 = .ok (.aload_n 0, 1) := by decide +kernel
theorem dL_number_3 : decode cL_number 3 = .ok (.iload_n 1, 1) := by decide +kernel
theorem dL_number_4 : decode cL_number 4 = .ok (.invokevirtual 25, 3) := by decide +kernel
theorem dL_number_7 : decode cL_number 7 = .ok (.i2l, 1) := by decide +kernel
theorem dL_number_8 : decode cL_number 8 = .ok (.lastore, 1) := by decide +kernel
theorem dL_number_9 : decode cL_number 9 = .ok (.goto 6, 3) := by decide +kernel
theorem dL_number_12 : decode cL_number 12 = .ok (.astore_n 3, 1) := by decide +kernel
theorem dL_number_13 : decode cL_number 13 = .ok (.iconst 1, 1) := by decide +kernel
theorem dL_number_14 : decode cL_number 14 = .ok (.ireturn, 1) := by decide +kernel
theorem dL_number_15 : decode cL_number 15 = .ok (.iconst 0, 1) := by decide +kernel
theorem dL_number_16 : decode cL_number 16 = .ok (.ireturn, 1) := by decide +kernel
theorem dL_row_0 : decode cL_row 0 = .ok (.aload_n 2, 1) := by decide +kernel
theorem dL_row_1 : decode cL_row 1 = .ok (.iconst 0, 1) := by decide +kernel
theorem dL_row_2 : decode cL_row 2 = .ok (.aload_n 0, 1) := by decide +kernel
theorem dL_row_3 : decode cL_row 3 = .ok (.iload_n 1, 1) := by decide +kernel
theorem dL_row_4 : decode cL_row 4 = .ok (.invokevirtual 28, 3) := by decide +kernel
theorem dL_row_7 : decode cL_row 7 = .ok (.i2l, 1) := by decide +kernel
theorem dL_row_8 : decode cL_row 8 = .ok (.lastore, 1) := by decide +kernel
theorem dL_row_9 : decode cL_row 9 = .ok (.goto 6, 3) := by decide +kernel
theorem dL_row_12 : decode cL_row 12 = .ok (.astore_n 3, 1) := by decide +kernel
theorem dL_row_13 : decode cL_row 13 = .ok (.iconst 1, 1) := by decide +kernel
theorem dL_row_14 : decode cL_row 14 = .ok (.ireturn, 1) := by decide +kernel
theorem dL_row_15 : decode cL_row 15 = .ok (.iconst 0, 1) := by decide +kernel
theorem dL_row_16 : decode cL_row 16 = .ok (.ireturn, 1) := by decide +kernel
theorem dL_log_0 : decode cL_log 0 = .ok (.aload_n 2, 1) := by decide +kernel
theorem dL_log_1 : decode cL_log 1 = .ok (.iconst 0, 1) := by decide +kernel
theorem dL_log_2 : decode cL_log 2 = .ok (.aload_n 0, 1) := by decide +kernel
theorem dL_log_3 : decode cL_log 3 = .ok (.iload_n 1, 1) := by decide +kernel
theorem dL_log_4 : decode cL_log 4 = .ok (.invokevirtual 31, 3) := by decide +kernel
theorem dL_log_7 : decode cL_log 7 = .ok (.i2l, 1) := by decide +kernel
theorem dL_log_8 : decode cL_log 8 = .ok (.lastore, 1) := by decide +kernel
theorem dL_log_9 : decode cL_log 9 = .ok (.goto 6, 3) := by decide +kernel
theorem dL_log_12 : decode cL_log 12 = .ok (.astore_n 3, 1) := by decide +kernel
theorem dL_log_13 : decode cL_log 13 = .ok (.iconst 1, 1) := by decide +kernel
theorem dL_log_14 : decode cL_log 14 = .ok (.ireturn, 1) := by decide +kernel
theorem dL_log_15 : decode cL_log 15 = .ok (.iconst 0, 1) := by decide +kernel
theorem dL_log_16 : decode cL_log 16 = .ok (.ireturn, 1) := by decide +kernel
theorem dL_law_0 : decode cL_law 0 = .ok (.new 8, 3) := by decide +kernel
theorem dL_law_3 : decode cL_law 3 = .ok (.dup, 1) := by decide +kernel
theorem dL_law_4 : decode cL_law 4 = .ok (.invokespecial 34, 3) := by decide +kernel
theorem dL_law_7 : decode cL_law 7 = .ok (.astore_n 1, 1) := by decide +kernel
theorem dL_law_8 : decode cL_law 8 = .ok (.new 35, 3) := by decide +kernel
theorem dL_law_11 : decode cL_law 11 = .ok (.dup, 1) := by decide +kernel
theorem dL_law_12 : decode cL_law 12 = .ok (.invokespecial 37, 3) := by decide +kernel
theorem dL_law_15 : decode cL_law 15 = .ok (.astore_n 2, 1) := by decide +kernel
theorem dL_law_16 : decode cL_law 16 = .ok (.iconst 1, 1) := by decide +kernel
theorem dL_law_17 : decode cL_law 17 = .ok (.newarray .long, 2) := by decide +kernel
theorem dL_law_19 : decode cL_law 19 = .ok (.astore_n 3, 1) := by decide +kernel
theorem dL_law_20 : decode cL_law 20 = .ok (.iconst 0, 1) := by decide +kernel
theorem dL_law_21 : decode cL_law 21 = .ok (.istore 4, 2) := by decide +kernel
theorem dL_law_23 : decode cL_law 23 = .ok (.iload 4, 2) := by decide +kernel
theorem dL_law_25 : decode cL_law 25 = .ok (.aload_n 0, 1) := by decide +kernel
theorem dL_law_26 : decode cL_law 26 = .ok (.arraylength, 1) := by decide +kernel
theorem dL_law_27 : decode cL_law 27 = .ok (.iconst 5, 1) := by decide +kernel
theorem dL_law_28 : decode cL_law 28 = .ok (.isub, 1) := by decide +kernel
theorem dL_law_29 : decode cL_law 29 = .ok (.if_icmp .gt 451, 3) := by decide +kernel
theorem dL_law_32 : decode cL_law 32 = .ok (.aload_n 0, 1) := by decide +kernel
theorem dL_law_33 : decode cL_law 33 = .ok (.iload 4, 2) := by decide +kernel
theorem dL_law_35 : decode cL_law 35 = .ok (.iaload, 1) := by decide +kernel
theorem dL_law_36 : decode cL_law 36 = .ok (.bipush 7, 2) := by decide +kernel
theorem dL_law_38 : decode cL_law 38 = .ok (.iand, 1) := by decide +kernel
theorem dL_law_39 : decode cL_law 39 = .ok (.tableswitch 435 0 7 #[45, 137, 173, 229, 242, 298, 354, 410], 45) := by decide +kernel
theorem dL_law_84 : decode cL_law 84 = .ok (.aload_n 1, 1) := by decide +kernel
theorem dL_law_85 : decode cL_law 85 = .ok (.aload_n 0, 1) := by decide +kernel
theorem dL_law_86 : decode cL_law 86 = .ok (.iload 4, 2) := by decide +kernel
theorem dL_law_88 : decode cL_law 88 = .ok (.iconst 1, 1) := by decide +kernel
theorem dL_law_89 : decode cL_law 89 = .ok (.iadd, 1) := by decide +kernel
theorem dL_law_90 : decode cL_law 90 = .ok (.iaload, 1) := by decide +kernel
theorem dL_law_91 : decode cL_law 91 = .ok (.aload_n 0, 1) := by decide +kernel
theorem dL_law_92 : decode cL_law 92 = .ok (.iload 4, 2) := by decide +kernel
theorem dL_law_94 : decode cL_law 94 = .ok (.iconst 2, 1) := by decide +kernel
theorem dL_law_95 : decode cL_law 95 = .ok (.iadd, 1) := by decide +kernel
theorem dL_law_96 : decode cL_law 96 = .ok (.iaload, 1) := by decide +kernel
theorem dL_law_97 : decode cL_law 97 = .ok (.aload_n 0, 1) := by decide +kernel
theorem dL_law_98 : decode cL_law 98 = .ok (.iload 4, 2) := by decide +kernel
theorem dL_law_100 : decode cL_law 100 = .ok (.iconst 3, 1) := by decide +kernel
theorem dL_law_101 : decode cL_law 101 = .ok (.iadd, 1) := by decide +kernel
theorem dL_law_102 : decode cL_law 102 = .ok (.iaload, 1) := by decide +kernel
theorem dL_law_103 : decode cL_law 103 = .ok (.aload_n 0, 1) := by decide +kernel
theorem dL_law_104 : decode cL_law 104 = .ok (.iload 4, 2) := by decide +kernel
theorem dL_law_106 : decode cL_law 106 = .ok (.iconst 4, 1) := by decide +kernel
theorem dL_law_107 : decode cL_law 107 = .ok (.iadd, 1) := by decide +kernel
theorem dL_law_108 : decode cL_law 108 = .ok (.iaload, 1) := by decide +kernel
theorem dL_law_109 : decode cL_law 109 = .ok (.aload_n 3, 1) := by decide +kernel
theorem dL_law_110 : decode cL_law 110 = .ok (.invokestatic 38, 3) := by decide +kernel
theorem dL_law_113 : decode cL_law 113 = .ok (.istore 5, 2) := by decide +kernel
theorem dL_law_115 : decode cL_law 115 = .ok (.aload_n 2, 1) := by decide +kernel
theorem dL_law_116 : decode cL_law 116 = .ok (.aload_n 0, 1) := by decide +kernel
theorem dL_law_117 : decode cL_law 117 = .ok (.iload 4, 2) := by decide +kernel
theorem dL_law_119 : decode cL_law 119 = .ok (.iconst 1, 1) := by decide +kernel
theorem dL_law_120 : decode cL_law 120 = .ok (.iadd, 1) := by decide +kernel
theorem dL_law_121 : decode cL_law 121 = .ok (.iaload, 1) := by decide +kernel
theorem dL_law_122 : decode cL_law 122 = .ok (.aload_n 0, 1) := by decide +kernel
theorem dL_law_123 : decode cL_law 123 = .ok (.iload 4, 2) := by decide +kernel
theorem dL_law_125 : decode cL_law 125 = .ok (.iconst 2, 1) := by decide +kernel
theorem dL_law_126 : decode cL_law 126 = .ok (.iadd, 1) := by decide +kernel
theorem dL_law_127 : decode cL_law 127 = .ok (.iaload, 1) := by decide +kernel
theorem dL_law_128 : decode cL_law 128 = .ok (.aload_n 0, 1) := by decide +kernel
theorem dL_law_129 : decode cL_law 129 = .ok (.iload 4, 2) := by decide +kernel
theorem dL_law_131 : decode cL_law 131 = .ok (.iconst 3, 1) := by decide +kernel
theorem dL_law_132 : decode cL_law 132 = .ok (.iadd, 1) := by decide +kernel
theorem dL_law_133 : decode cL_law 133 = .ok (.iaload, 1) := by decide +kernel
theorem dL_law_134 : decode cL_law 134 = .ok (.aload_n 0, 1) := by decide +kernel
theorem dL_law_135 : decode cL_law 135 = .ok (.iload 4, 2) := by decide +kernel
theorem dL_law_137 : decode cL_law 137 = .ok (.iconst 4, 1) := by decide +kernel
theorem dL_law_138 : decode cL_law 138 = .ok (.iadd, 1) := by decide +kernel
theorem dL_law_139 : decode cL_law 139 = .ok (.iaload, 1) := by decide +kernel
theorem dL_law_140 : decode cL_law 140 = .ok (.invokevirtual 43, 3) := by decide +kernel
theorem dL_law_143 : decode cL_law 143 = .ok (.istore 6, 2) := by decide +kernel
theorem dL_law_145 : decode cL_law 145 = .ok (.aload_n 2, 1) := by decide +kernel
theorem dL_law_146 : decode cL_law 146 = .ok (.invokevirtual 44, 3) := by decide +kernel
theorem dL_law_149 : decode cL_law 149 = .ok (.iload 5, 2) := by decide +kernel
theorem dL_law_151 : decode cL_law 151 = .ok (.if_icmp .eq 5, 3) := by decide +kernel
theorem dL_law_154 : decode cL_law 154 = .ok (.iconst 0, 1) := by decide +kernel
theorem dL_law_155 : decode cL_law 155 = .ok (.ireturn, 1) := by decide +kernel
theorem dL_law_156 : decode cL_law 156 = .ok (.iload 5, 2) := by decide +kernel
theorem dL_law_158 : decode cL_law 158 = .ok (.ifCond .ne 15, 3) := by decide +kernel
theorem dL_law_161 : decode cL_law 161 = .ok (.aload_n 3, 1) := by decide +kernel
theorem dL_law_162 : decode cL_law 162 = .ok (.iconst 0, 1) := by decide +kernel
theorem dL_law_163 : decode cL_law 163 = .ok (.laload, 1) := by decide +kernel
theorem dL_law_164 : decode cL_law 164 = .ok (.iload 6, 2) := by decide +kernel
theorem dL_law_166 : decode cL_law 166 = .ok (.i2l, 1) := by decide +kernel
theorem dL_law_167 : decode cL_law 167 = .ok (.lcmp, 1) := by decide +kernel
theorem dL_law_168 : decode cL_law 168 = .ok (.ifCond .eq 5, 3) := by decide +kernel
theorem dL_law_171 : decode cL_law 171 = .ok (.iconst 0, 1) := by decide +kernel
theorem dL_law_172 : decode cL_law 172 = .ok (.ireturn, 1) := by decide +kernel
theorem dL_law_173 : decode cL_law 173 = .ok (.goto 301, 3) := by decide +kernel
theorem dL_law_176 : decode cL_law 176 = .ok (.aload_n 1, 1) := by decide +kernel
theorem dL_law_177 : decode cL_law 177 = .ok (.aload_n 0, 1) := by decide +kernel
theorem dL_law_178 : decode cL_law 178 = .ok (.iload 4, 2) := by decide +kernel
theorem dL_law_180 : decode cL_law 180 = .ok (.iconst 1, 1) := by decide +kernel
theorem dL_law_181 : decode cL_law 181 = .ok (.iadd, 1) := by decide +kernel
theorem dL_law_182 : decode cL_law 182 = .ok (.iaload, 1) := by decide +kernel
theorem dL_law_183 : decode cL_law 183 = .ok (.invokestatic 48, 3) := by decide +kernel
theorem dL_law_186 : decode cL_law 186 = .ok (.istore 5, 2) := by decide +kernel
theorem dL_law_188 : decode cL_law 188 = .ok (.aload_n 2, 1) := by decide +kernel
theorem dL_law_189 : decode cL_law 189 = .ok (.aload_n 0, 1) := by decide +kernel
theorem dL_law_190 : decode cL_law 190 = .ok (.iload 4, 2) := by decide +kernel
theorem dL_law_192 : decode cL_law 192 = .ok (.iconst 1, 1) := by decide +kernel
theorem dL_law_193 : decode cL_law 193 = .ok (.iadd, 1) := by decide +kernel
theorem dL_law_194 : decode cL_law 194 = .ok (.iaload, 1) := by decide +kernel
theorem dL_law_195 : decode cL_law 195 = .ok (.invokevirtual 51, 3) := by decide +kernel
theorem dL_law_198 : decode cL_law 198 = .ok (.aload_n 2, 1) := by decide +kernel
theorem dL_law_199 : decode cL_law 199 = .ok (.invokevirtual 44, 3) := by decide +kernel
theorem dL_law_202 : decode cL_law 202 = .ok (.iload 5, 2) := by decide +kernel
theorem dL_law_204 : decode cL_law 204 = .ok (.if_icmp .eq 5, 3) := by decide +kernel
theorem dL_law_207 : decode cL_law 207 = .ok (.iconst 0, 1) := by decide +kernel
theorem dL_law_208 : decode cL_law 208 = .ok (.ireturn, 1) := by decide +kernel
theorem dL_law_209 : decode cL_law 209 = .ok (.goto 265, 3) := by decide +kernel
theorem dL_law_212 : decode cL_law 212 = .ok (.aload_n 1, 1) := by decide +kernel
theorem dL_law_213 : decode cL_law 213 = .ok (.aload_n 0, 1) := by decide +kernel
theorem dL_law_214 : decode cL_law 214 = .ok (.iload 4, 2) := by decide +kernel
theorem dL_law_216 : decode cL_law 216 = .ok (.iconst 1, 1) := by decide +kernel
theorem dL_law_217 : decode cL_law 217 = .ok (.iadd, 1) := by decide +kernel
theorem dL_law_218 : decode cL_law 218 = .ok (.iaload, 1) := by decide +kernel
theorem dL_law_219 : decode cL_law 219 = .ok (.aload_n 3, 1) := by decide +kernel
theorem dL_law_220 : decode cL_law 220 = .ok (.invokestatic 52, 3) := by decide +kernel
theorem dL_law_223 : decode cL_law 223 = .ok (.istore 5, 2) := by decide +kernel
theorem dL_law_225 : decode cL_law 225 = .ok (.aload_n 2, 1) := by decide +kernel
theorem dL_law_226 : decode cL_law 226 = .ok (.aload_n 0, 1) := by decide +kernel
theorem dL_law_227 : decode cL_law 227 = .ok (.iload 4, 2) := by decide +kernel
theorem dL_law_229 : decode cL_law 229 = .ok (.iconst 1, 1) := by decide +kernel
theorem dL_law_230 : decode cL_law 230 = .ok (.iadd, 1) := by decide +kernel
theorem dL_law_231 : decode cL_law 231 = .ok (.iaload, 1) := by decide +kernel
theorem dL_law_232 : decode cL_law 232 = .ok (.invokevirtual 55, 3) := by decide +kernel
theorem dL_law_235 : decode cL_law 235 = .ok (.istore 6, 2) := by decide +kernel
theorem dL_law_237 : decode cL_law 237 = .ok (.aload_n 2, 1) := by decide +kernel
theorem dL_law_238 : decode cL_law 238 = .ok (.invokevirtual 44, 3) := by decide +kernel
theorem dL_law_241 : decode cL_law 241 = .ok (.iload 5, 2) := by decide +kernel
theorem dL_law_243 : decode cL_law 243 = .ok (.if_icmp .eq 5, 3) := by decide +kernel
theorem dL_law_246 : decode cL_law 246 = .ok (.iconst 0, 1) := by decide +kernel
theorem dL_law_247 : decode cL_law 247 = .ok (.ireturn, 1) := by decide +kernel
theorem dL_law_248 : decode cL_law 248 = .ok (.iload 5, 2) := by decide +kernel
theorem dL_law_250 : decode cL_law 250 = .ok (.ifCond .ne 15, 3) := by decide +kernel
theorem dL_law_253 : decode cL_law 253 = .ok (.aload_n 3, 1) := by decide +kernel
theorem dL_law_254 : decode cL_law 254 = .ok (.iconst 0, 1) := by decide +kernel
theorem dL_law_255 : decode cL_law 255 = .ok (.laload, 1) := by decide +kernel
theorem dL_law_256 : decode cL_law 256 = .ok (.iload 6, 2) := by decide +kernel
theorem dL_law_258 : decode cL_law 258 = .ok (.i2l, 1) := by decide +kernel
theorem dL_law_259 : decode cL_law 259 = .ok (.lcmp, 1) := by decide +kernel
theorem dL_law_260 : decode cL_law 260 = .ok (.ifCond .eq 5, 3) := by decide +kernel
theorem dL_law_263 : decode cL_law 263 = .ok (.iconst 0, 1) := by decide +kernel
theorem dL_law_264 : decode cL_law 264 = .ok (.ireturn, 1) := by decide +kernel
theorem dL_law_265 : decode cL_law 265 = .ok (.goto 209, 3) := by decide +kernel
theorem dL_law_268 : decode cL_law 268 = .ok (.aload_n 1, 1) := by decide +kernel
theorem dL_law_269 : decode cL_law 269 = .ok (.invokevirtual 56, 3) := by decide +kernel
theorem dL_law_272 : decode cL_law 272 = .ok (.aload_n 2, 1) := by decide +kernel
theorem dL_law_273 : decode cL_law 273 = .ok (.invokevirtual 59, 3) := by decide +kernel
theorem dL_law_276 : decode cL_law 276 = .ok (.if_icmp .eq 198, 3) := by decide +kernel
theorem dL_law_279 : decode cL_law 279 = .ok (.iconst 0, 1) := by decide +kernel
theorem dL_law_280 : decode cL_law 280 = .ok (.ireturn, 1) := by decide +kernel
theorem dL_law_281 : decode cL_law 281 = .ok (.aload_n 1, 1) := by decide +kernel
theorem dL_law_282 : decode cL_law 282 = .ok (.aload_n 0, 1) := by decide +kernel
theorem dL_law_283 : decode cL_law 283 = .ok (.iload 4, 2) := by decide +kernel
theorem dL_law_285 : decode cL_law 285 = .ok (.iconst 1, 1) := by decide +kernel
theorem dL_law_286 : decode cL_law 286 = .ok (.iadd, 1) := by decide +kernel
theorem dL_law_287 : decode cL_law 287 = .ok (.iaload, 1) := by decide +kernel
theorem dL_law_288 : decode cL_law 288 = .ok (.aload_n 3, 1) := by decide +kernel
theorem dL_law_289 : decode cL_law 289 = .ok (.invokestatic 60, 3) := by decide +kernel
theorem dL_law_292 : decode cL_law 292 = .ok (.istore 5, 2) := by decide +kernel
theorem dL_law_294 : decode cL_law 294 = .ok (.aload_n 2, 1) := by decide +kernel
theorem dL_law_295 : decode cL_law 295 = .ok (.aload_n 0, 1) := by decide +kernel
theorem dL_law_296 : decode cL_law 296 = .ok (.iload 4, 2) := by decide +kernel
theorem dL_law_298 : decode cL_law 298 = .ok (.iconst 1, 1) := by decide +kernel
theorem dL_law_299 : decode cL_law 299 = .ok (.iadd, 1) := by decide +kernel
theorem dL_law_300 : decode cL_law 300 = .ok (.iaload, 1) := by decide +kernel
theorem dL_law_301 : decode cL_law 301 = .ok (.invokevirtual 62, 3) := by decide +kernel
theorem dL_law_304 : decode cL_law 304 = .ok (.istore 6, 2) := by decide +kernel
theorem dL_law_306 : decode cL_law 306 = .ok (.aload_n 2, 1) := by decide +kernel
theorem dL_law_307 : decode cL_law 307 = .ok (.invokevirtual 44, 3) := by decide +kernel
theorem dL_law_310 : decode cL_law 310 = .ok (.iload 5, 2) := by decide +kernel
theorem dL_law_312 : decode cL_law 312 = .ok (.if_icmp .eq 5, 3) := by decide +kernel
theorem dL_law_315 : decode cL_law 315 = .ok (.iconst 0, 1) := by decide +kernel
theorem dL_law_316 : decode cL_law 316 = .ok (.ireturn, 1) := by decide +kernel
theorem dL_law_317 : decode cL_law 317 = .ok (.iload 5, 2) := by decide +kernel
theorem dL_law_319 : decode cL_law 319 = .ok (.ifCond .ne 15, 3) := by decide +kernel
theorem dL_law_322 : decode cL_law 322 = .ok (.aload_n 3, 1) := by decide +kernel
theorem dL_law_323 : decode cL_law 323 = .ok (.iconst 0, 1) := by decide +kernel
theorem dL_law_324 : decode cL_law 324 = .ok (.laload, 1) := by decide +kernel
theorem dL_law_325 : decode cL_law 325 = .ok (.iload 6, 2) := by decide +kernel
theorem dL_law_327 : decode cL_law 327 = .ok (.i2l, 1) := by decide +kernel
theorem dL_law_328 : decode cL_law 328 = .ok (.lcmp, 1) := by decide +kernel
theorem dL_law_329 : decode cL_law 329 = .ok (.ifCond .eq 5, 3) := by decide +kernel
theorem dL_law_332 : decode cL_law 332 = .ok (.iconst 0, 1) := by decide +kernel
theorem dL_law_333 : decode cL_law 333 = .ok (.ireturn, 1) := by decide +kernel
theorem dL_law_334 : decode cL_law 334 = .ok (.goto 140, 3) := by decide +kernel
theorem dL_law_337 : decode cL_law 337 = .ok (.aload_n 1, 1) := by decide +kernel
theorem dL_law_338 : decode cL_law 338 = .ok (.aload_n 0, 1) := by decide +kernel
theorem dL_law_339 : decode cL_law 339 = .ok (.iload 4, 2) := by decide +kernel
theorem dL_law_341 : decode cL_law 341 = .ok (.iconst 1, 1) := by decide +kernel
theorem dL_law_342 : decode cL_law 342 = .ok (.iadd, 1) := by decide +kernel
theorem dL_law_343 : decode cL_law 343 = .ok (.iaload, 1) := by decide +kernel
theorem dL_law_344 : decode cL_law 344 = .ok (.aload_n 3, 1) := by decide +kernel
theorem dL_law_345 : decode cL_law 345 = .ok (.invokestatic 63, 3) := by decide +kernel
theorem dL_law_348 : decode cL_law 348 = .ok (.istore 5, 2) := by decide +kernel
theorem dL_law_350 : decode cL_law 350 = .ok (.aload_n 2, 1) := by decide +kernel
theorem dL_law_351 : decode cL_law 351 = .ok (.aload_n 0, 1) := by decide +kernel
theorem dL_law_352 : decode cL_law 352 = .ok (.iload 4, 2) := by decide +kernel
theorem dL_law_354 : decode cL_law 354 = .ok (.iconst 1, 1) := by decide +kernel
theorem dL_law_355 : decode cL_law 355 = .ok (.iadd, 1) := by decide +kernel
theorem dL_law_356 : decode cL_law 356 = .ok (.iaload, 1) := by decide +kernel
theorem dL_law_357 : decode cL_law 357 = .ok (.invokevirtual 65, 3) := by decide +kernel
theorem dL_law_360 : decode cL_law 360 = .ok (.istore 6, 2) := by decide +kernel
theorem dL_law_362 : decode cL_law 362 = .ok (.aload_n 2, 1) := by decide +kernel
theorem dL_law_363 : decode cL_law 363 = .ok (.invokevirtual 44, 3) := by decide +kernel
theorem dL_law_366 : decode cL_law 366 = .ok (.iload 5, 2) := by decide +kernel
theorem dL_law_368 : decode cL_law 368 = .ok (.if_icmp .eq 5, 3) := by decide +kernel
theorem dL_law_371 : decode cL_law 371 = .ok (.iconst 0, 1) := by decide +kernel
theorem dL_law_372 : decode cL_law 372 = .ok (.ireturn, 1) := by decide +kernel
theorem dL_law_373 : decode cL_law 373 = .ok (.iload 5, 2) := by decide +kernel
theorem dL_law_375 : decode cL_law 375 = .ok (.ifCond .ne 15, 3) := by decide +kernel
theorem dL_law_378 : decode cL_law 378 = .ok (.aload_n 3, 1) := by decide +kernel
theorem dL_law_379 : decode cL_law 379 = .ok (.iconst 0, 1) := by decide +kernel
theorem dL_law_380 : decode cL_law 380 = .ok (.laload, 1) := by decide +kernel
theorem dL_law_381 : decode cL_law 381 = .ok (.iload 6, 2) := by decide +kernel
theorem dL_law_383 : decode cL_law 383 = .ok (.i2l, 1) := by decide +kernel
theorem dL_law_384 : decode cL_law 384 = .ok (.lcmp, 1) := by decide +kernel
theorem dL_law_385 : decode cL_law 385 = .ok (.ifCond .eq 5, 3) := by decide +kernel
theorem dL_law_388 : decode cL_law 388 = .ok (.iconst 0, 1) := by decide +kernel
theorem dL_law_389 : decode cL_law 389 = .ok (.ireturn, 1) := by decide +kernel
theorem dL_law_390 : decode cL_law 390 = .ok (.goto 84, 3) := by decide +kernel
theorem dL_law_393 : decode cL_law 393 = .ok (.aload_n 1, 1) := by decide +kernel
theorem dL_law_394 : decode cL_law 394 = .ok (.aload_n 0, 1) := by decide +kernel
theorem dL_law_395 : decode cL_law 395 = .ok (.iload 4, 2) := by decide +kernel
theorem dL_law_397 : decode cL_law 397 = .ok (.iconst 1, 1) := by decide +kernel
theorem dL_law_398 : decode cL_law 398 = .ok (.iadd, 1) := by decide +kernel
theorem dL_law_399 : decode cL_law 399 = .ok (.iaload, 1) := by decide +kernel
theorem dL_law_400 : decode cL_law 400 = .ok (.aload_n 3, 1) := by decide +kernel
theorem dL_law_401 : decode cL_law 401 = .ok (.invokestatic 66, 3) := by decide +kernel
theorem dL_law_404 : decode cL_law 404 = .ok (.istore 5, 2) := by decide +kernel
theorem dL_law_406 : decode cL_law 406 = .ok (.aload_n 2, 1) := by decide +kernel
theorem dL_law_407 : decode cL_law 407 = .ok (.aload_n 0, 1) := by decide +kernel
theorem dL_law_408 : decode cL_law 408 = .ok (.iload 4, 2) := by decide +kernel
theorem dL_law_410 : decode cL_law 410 = .ok (.iconst 1, 1) := by decide +kernel
theorem dL_law_411 : decode cL_law 411 = .ok (.iadd, 1) := by decide +kernel
theorem dL_law_412 : decode cL_law 412 = .ok (.iaload, 1) := by decide +kernel
theorem dL_law_413 : decode cL_law 413 = .ok (.invokevirtual 68, 3) := by decide +kernel
theorem dL_law_416 : decode cL_law 416 = .ok (.istore 6, 2) := by decide +kernel
theorem dL_law_418 : decode cL_law 418 = .ok (.aload_n 2, 1) := by decide +kernel
theorem dL_law_419 : decode cL_law 419 = .ok (.invokevirtual 44, 3) := by decide +kernel
theorem dL_law_422 : decode cL_law 422 = .ok (.iload 5, 2) := by decide +kernel
theorem dL_law_424 : decode cL_law 424 = .ok (.if_icmp .eq 5, 3) := by decide +kernel
theorem dL_law_427 : decode cL_law 427 = .ok (.iconst 0, 1) := by decide +kernel
theorem dL_law_428 : decode cL_law 428 = .ok (.ireturn, 1) := by decide +kernel
theorem dL_law_429 : decode cL_law 429 = .ok (.iload 5, 2) := by decide +kernel
theorem dL_law_431 : decode cL_law 431 = .ok (.ifCond .ne 15, 3) := by decide +kernel
theorem dL_law_434 : decode cL_law 434 = .ok (.aload_n 3, 1) := by decide +kernel
theorem dL_law_435 : decode cL_law 435 = .ok (.iconst 0, 1) := by decide +kernel
theorem dL_law_436 : decode cL_law 436 = .ok (.laload, 1) := by decide +kernel
theorem dL_law_437 : decode cL_law 437 = .ok (.iload 6, 2) := by decide +kernel
theorem dL_law_439 : decode cL_law 439 = .ok (.i2l, 1) := by decide +kernel
theorem dL_law_440 : decode cL_law 440 = .ok (.lcmp, 1) := by decide +kernel
theorem dL_law_441 : decode cL_law 441 = .ok (.ifCond .eq 5, 3) := by decide +kernel
theorem dL_law_444 : decode cL_law 444 = .ok (.iconst 0, 1) := by decide +kernel
theorem dL_law_445 : decode cL_law 445 = .ok (.ireturn, 1) := by decide +kernel
theorem dL_law_446 : decode cL_law 446 = .ok (.goto 28, 3) := by decide +kernel
theorem dL_law_449 : decode cL_law 449 = .ok (.aload_n 1, 1) := by decide +kernel
theorem dL_law_450 : decode cL_law 450 = .ok (.aload_n 0, 1) := by decide +kernel
theorem dL_law_451 : decode cL_law 451 = .ok (.iload 4, 2) := by decide +kernel
theorem dL_law_453 : decode cL_law 453 = .ok (.iconst 1, 1) := by decide +kernel
theorem dL_law_454 : decode cL_law 454 = .ok (.iadd, 1) := by decide +kernel
theorem dL_law_455 : decode cL_law 455 = .ok (.iaload, 1) := by decide +kernel
theorem dL_law_456 : decode cL_law 456 = .ok (.invokevirtual 69, 3) := by decide +kernel
theorem dL_law_459 : decode cL_law 459 = .ok (.aload_n 2, 1) := by decide +kernel
theorem dL_law_460 : decode cL_law 460 = .ok (.aload_n 0, 1) := by decide +kernel
theorem dL_law_461 : decode cL_law 461 = .ok (.iload 4, 2) := by decide +kernel
theorem dL_law_463 : decode cL_law 463 = .ok (.iconst 1, 1) := by decide +kernel
theorem dL_law_464 : decode cL_law 464 = .ok (.iadd, 1) := by decide +kernel
theorem dL_law_465 : decode cL_law 465 = .ok (.iaload, 1) := by decide +kernel
theorem dL_law_466 : decode cL_law 466 = .ok (.invokevirtual 72, 3) := by decide +kernel
theorem dL_law_469 : decode cL_law 469 = .ok (.if_icmp .eq 5, 3) := by decide +kernel
theorem dL_law_472 : decode cL_law 472 = .ok (.iconst 0, 1) := by decide +kernel
theorem dL_law_473 : decode cL_law 473 = .ok (.ireturn, 1) := by decide +kernel
theorem dL_law_474 : decode cL_law 474 = .ok (.iinc 4 5, 3) := by decide +kernel
theorem dL_law_477 : decode cL_law 477 = .ok (.goto (-454), 3) := by decide +kernel
theorem dL_law_480 : decode cL_law 480 = .ok (.iconst 1, 1) := by decide +kernel
theorem dL_law_481 : decode cL_law 481 = .ok (.ireturn, 1) := by decide +kernel
