theorem dX0_init_0 : decode cX0_init 0 = .ok (.aload_n 0, 1) := by decide +kernel
theorem dX0_init_1 : decode cX0_init 1 = .ok (.invokespecial 3, 3) := by decide +kernel
theorem dX0_init_4 : decode cX0_init 4 = .ok (.aload_n 0, 1) := by decide +kernel
theorem dX0_init_5 : decode cX0_init 5 = .ok (.bipush 30, 2) := by decide +kernel
theorem dX0_init_7 : decode cX0_init 7 = .ok (.newarray .int, 2) := by decide +kernel
theorem dX0_init_9 : decode cX0_init 9 = .ok (.putfield 9, 3) := by decide +kernel
theorem dX0_init_12 : decode cX0_init 12 = .ok (.aload_n 0, 1) := by decide +kernel
theorem dX0_init_13 : decode cX0_init 13 = .ok (.bipush 30, 2) := by decide +kernel
theorem dX0_init_15 : decode cX0_init 15 = .ok (.newarray .int, 2) := by decide +kernel
theorem dX0_init_17 : decode cX0_init 17 = .ok (.putfield 15, 3) := by decide +kernel
theorem dX0_init_20 : decode cX0_init 20 = .ok (.aload_n 0, 1) := by decide +kernel
theorem dX0_init_21 : decode cX0_init 21 = .ok (.bipush 30, 2) := by decide +kernel
theorem dX0_init_23 : decode cX0_init 23 = .ok (.newarray .int, 2) := by decide +kernel
theorem dX0_init_25 : decode cX0_init 25 = .ok (.putfield 18, 3) := by decide +kernel
theorem dX0_init_28 : decode cX0_init 28 = .ok (.return_, 1) := by decide +kernel
theorem dX0_add_0 : decode cX0_add 0 = .ok (.aload_n 0, 1) := by decide +kernel
theorem dX0_add_1 : decode cX0_add 1 = .ok (.getfield 21, 3) := by decide +kernel
theorem dX0_add_4 : decode cX0_add 4 = .ok (.bipush 30, 2) := by decide +kernel
theorem dX0_add_6 : decode cX0_add 6 = .ok (.if_icmp .lt 6, 3) := by decide +kernel
theorem dX0_add_9 : decode cX0_add 9 = .ok (.bipush (-3), 2) := by decide +kernel
theorem dX0_add_11 : decode cX0_add 11 = .ok (.ireturn, 1) := by decide +kernel
theorem dX0_add_12 : decode cX0_add 12 = .ok (.aload_n 0, 1) := by decide +kernel
theorem dX0_add_13 : decode cX0_add 13 = .ok (.getfield 9, 3) := by decide +kernel
theorem dX0_add_16 : decode cX0_add 16 = .ok (.aload_n 0, 1) := by decide +kernel
theorem dX0_add_17 : decode cX0_add 17 = .ok (.getfield 21, 3) := by decide +kernel
theorem dX0_add_20 : decode cX0_add 20 = .ok (.iload_n 1, 1) := by decide +kernel
theorem dX0_add_21 : decode cX0_add 21 = .ok (.iastore, 1) := by decide +kernel
theorem dX0_add_22 : decode cX0_add 22 = .ok (.aload_n 0, 1) := by decide +kernel
theorem dX0_add_23 : decode cX0_add 23 = .ok (.getfield 15, 3) := by decide +kernel
theorem dX0_add_26 : decode cX0_add 26 = .ok (.aload_n 0, 1) := by decide +kernel
theorem dX0_add_27 : decode cX0_add 27 = .ok (.getfield 21, 3) := by decide +kernel
theorem dX0_add_30 : decode cX0_add 30 = .ok (.iload_n 2, 1) := by decide +kernel
theorem dX0_add_31 : decode cX0_add 31 = .ok (.iastore, 1) := by decide +kernel
theorem dX0_add_32 : decode cX0_add 32 = .ok (.aload_n 0, 1) := by decide +kernel
theorem dX0_add_33 : decode cX0_add 33 = .ok (.getfield 18, 3) := by decide +kernel
theorem dX0_add_36 : decode cX0_add 36 = .ok (.aload_n 0, 1) := by decide +kernel
theorem dX0_add_37 : decode cX0_add 37 = .ok (.getfield 21, 3) := by decide +kernel
theorem dX0_add_40 : decode cX0_add 40 = .ok (.iconst 2, 1) := by decide +kernel
theorem dX0_add_41 : decode cX0_add 41 = .ok (.iastore, 1) := by decide +kernel
theorem dX0_add_42 : decode cX0_add 42 = .ok (.aload_n 0, 1) := by decide +kernel
theorem dX0_add_43 : decode cX0_add 43 = .ok (.dup, 1) := by decide +kernel
theorem dX0_add_44 : decode cX0_add 44 = .ok (.getfield 21, 3) := by decide +kernel
theorem dX0_add_47 : decode cX0_add 47 = .ok (.iconst 1, 1) := by decide +kernel
theorem dX0_add_48 : decode cX0_add 48 = .ok (.iadd, 1) := by decide +kernel
theorem dX0_add_49 : decode cX0_add 49 = .ok (.putfield 21, 3) := by decide +kernel
theorem dX0_add_52 : decode cX0_add 52 = .ok (.aload_n 0, 1) := by decide +kernel
theorem dX0_add_53 : decode cX0_add 53 = .ok (.getfield 21, 3) := by decide +kernel
theorem dX0_add_56 : decode cX0_add 56 = .ok (.iconst 1, 1) := by decide +kernel
theorem dX0_add_57 : decode cX0_add 57 = .ok (.isub, 1) := by decide +kernel
theorem dX0_add_58 : decode cX0_add 58 = .ok (.ireturn, 1) := by decide +kernel
theorem dX0_addRound_0 : decode cX0_addRound 0 = .ok (.iconst 0, 1) := by decide +kernel
theorem dX0_addRound_1 : decode cX0_addRound 1 = .ok (.istore_n 2, 1) := by decide +kernel
theorem dX0_addRound_2 : decode cX0_addRound 2 = .ok (.iload_n 2, 1) := by decide +kernel
theorem dX0_addRound_3 : decode cX0_addRound 3 = .ok (.iload_n 1, 1) := by decide +kernel
theorem dX0_addRound_4 : decode cX0_addRound 4 = .ok (.if_icmp .ge 31, 3) := by decide +kernel
theorem dX0_addRound_7 : decode cX0_addRound 7 = .ok (.iload_n 2, 1) := by decide +kernel
theorem dX0_addRound_8 : decode cX0_addRound 8 = .ok (.iconst 1, 1) := by decide +kernel
theorem dX0_addRound_9 : decode cX0_addRound 9 = .ok (.iadd, 1) := by decide +kernel
theorem dX0_addRound_10 : decode cX0_addRound 10 = .ok (.istore_n 3, 1) := by decide +kernel
theorem dX0_addRound_11 : decode cX0_addRound 11 = .ok (.iload_n 3, 1) := by decide +kernel
theorem dX0_addRound_12 : decode cX0_addRound 12 = .ok (.iload_n 1, 1) := by decide +kernel
theorem dX0_addRound_13 : decode cX0_addRound 13 = .ok (.if_icmp .ge 16, 3) := by decide +kernel
theorem dX0_addRound_16 : decode cX0_addRound 16 = .ok (.aload_n 0, 1) := by decide +kernel
theorem dX0_addRound_17 : decode cX0_addRound 17 = .ok (.iload_n 2, 1) := by decide +kernel
theorem dX0_addRound_18 : decode cX0_addRound 18 = .ok (.iload_n 3, 1) := by decide +kernel
theorem dX0_addRound_19 : decode cX0_addRound 19 = .ok (.invokevirtual 25, 3) := by decide +kernel
theorem dX0_addRound_22 : decode cX0_addRound 22 = .ok (.pop, 1) := by decide +kernel
theorem dX0_addRound_23 : decode cX0_addRound 23 = .ok (.iinc 3 1, 3) := by decide +kernel
theorem dX0_addRound_26 : decode cX0_addRound 26 = .ok (.goto (-15), 3) := by decide +kernel
theorem dX0_addRound_29 : decode cX0_addRound 29 = .ok (.iinc 2 1, 3) := by decide +kernel
theorem dX0_addRound_32 : decode cX0_addRound 32 = .ok (.goto (-30), 3) := by decide +kernel
theorem dX0_addRound_35 : decode cX0_addRound 35 = .ok (.return_, 1) := by decide +kernel
theorem dX0_copyFrom_0 : decode cX0_copyFrom 0 = .ok (.aload_n 0, 1) := by decide +kernel
theorem dX0_copyFrom_1 : decode cX0_copyFrom 1 = .ok (.aload_n 1, 1) := by decide +kernel
theorem dX0_copyFrom_2 : decode cX0_copyFrom 2 = .ok (.getfield 21, 3) := by decide +kernel
theorem dX0_copyFrom_5 : decode cX0_copyFrom 5 = .ok (.putfield 21, 3) := by decide +kernel
theorem dX0_copyFrom_8 : decode cX0_copyFrom 8 = .ok (.iconst 0, 1) := by decide +kernel
theorem dX0_copyFrom_9 : decode cX0_copyFrom 9 = .ok (.istore_n 2, 1) := by decide +kernel
theorem dX0_copyFrom_10 : decode cX0_copyFrom 10 = .ok (.iload_n 2, 1) := by decide +kernel
theorem dX0_copyFrom_11 : decode cX0_copyFrom 11 = .ok (.aload_n 0, 1) := by decide +kernel
theorem dX0_copyFrom_12 : decode cX0_copyFrom 12 = .ok (.getfield 21, 3) := by decide +kernel
theorem dX0_copyFrom_15 : decode cX0_copyFrom 15 = .ok (.if_icmp .ge 45, 3) := by decide +kernel
theorem dX0_copyFrom_18 : decode cX0_copyFrom 18 = .ok (.aload_n 0, 1) := by decide +kernel
theorem dX0_copyFrom_19 : decode cX0_copyFrom 19 = .ok (.getfield 9, 3) := by decide +kernel
theorem dX0_copyFrom_22 : decode cX0_copyFrom 22 = .ok (.iload_n 2, 1) := by decide +kernel
theorem dX0_copyFrom_23 : decode cX0_copyFrom 23 = .ok (.aload_n 1, 1) := by decide +kernel
theorem dX0_copyFrom_24 : decode cX0_copyFrom 24 = .ok (.getfield 9, 3) := by decide +kernel
theorem dX0_copyFrom_27 : decode cX0_copyFrom 27 = .ok (.iload_n 2, 1) := by decide +kernel
theorem dX0_copyFrom_28 : decode cX0_copyFrom 28 = .ok (.iaload, 1) := by decide +kernel
theorem dX0_copyFrom_29 : decode cX0_copyFrom 29 = .ok (.iastore, 1) := by decide +kernel
theorem dX0_copyFrom_30 : decode cX0_copyFrom 30 = .ok (.aload_n 0, 1) := by decide +kernel
theorem dX0_copyFrom_31 : decode cX0_copyFrom 31 = .ok (.getfield 15, 3) := by decide +kernel
theorem dX0_copyFrom_34 : decode cX0_copyFrom 34 = .ok (.iload_n 2, 1) := by decide +kernel
theorem dX0_copyFrom_35 : decode cX0_copyFrom 35 = .ok (.aload_n 1, 1) := by decide +kernel
theorem dX0_copyFrom_36 : decode cX0_copyFrom 36 = .ok (.getfield 15, 3) := by decide +kernel
theorem dX0_copyFrom_39 : decode cX0_copyFrom 39 = .ok (.iload_n 2, 1) := by decide +kernel
theorem dX0_copyFrom_40 : decode cX0_copyFrom 40 = .ok (.iaload, 1) := by decide +kernel
theorem dX0_copyFrom_41 : decode cX0_copyFrom 41 = .ok (.iastore, 1) := by decide +kernel
theorem dX0_copyFrom_42 : decode cX0_copyFrom 42 = .ok (.aload_n 0, 1) := by decide +kernel
theorem dX0_copyFrom_43 : decode cX0_copyFrom 43 = .ok (.getfield 18, 3) := by decide +kernel
theorem dX0_copyFrom_46 : decode cX0_copyFrom 46 = .ok (.iload_n 2, 1) := by decide +kernel
theorem dX0_copyFrom_47 : decode cX0_copyFrom 47 = .ok (.aload_n 1, 1) := by decide +kernel
theorem dX0_copyFrom_48 : decode cX0_copyFrom 48 = .ok (.getfield 18, 3) := by decide +kernel
theorem dX0_copyFrom_51 : decode cX0_copyFrom 51 = .ok (.iload_n 2, 1) := by decide +kernel
theorem dX0_copyFrom_52 : decode cX0_copyFrom 52 = .ok (.iaload, 1) := by decide +kernel
theorem dX0_copyFrom_53 : decode cX0_copyFrom 53 = .ok (.iastore, 1) := by decide +kernel
theorem dX0_copyFrom_54 : decode cX0_copyFrom 54 = .ok (.iinc 2 1, 3) := by decide +kernel
theorem dX0_copyFrom_57 : decode cX0_copyFrom 57 = .ok (.goto (-47), 3) := by decide +kernel
theorem dX0_copyFrom_60 : decode cX0_copyFrom 60 = .ok (.return_, 1) := by decide +kernel
theorem dX0_has_0 : decode cX0_has 0 = .ok (.iload_n 1, 1) := by decide +kernel
theorem dX0_has_1 : decode cX0_has 1 = .ok (.ifCond .lt 15, 3) := by decide +kernel
theorem dX0_has_4 : decode cX0_has 4 = .ok (.iload_n 1, 1) := by decide +kernel
theorem dX0_has_5 : decode cX0_has 5 = .ok (.aload_n 0, 1) := by decide +kernel
theorem dX0_has_6 : decode cX0_has 6 = .ok (.getfield 21, 3) := by decide +kernel
theorem dX0_has_9 : decode cX0_has 9 = .ok (.if_icmp .ge 7, 3) := by decide +kernel
theorem dX0_has_12 : decode cX0_has 12 = .ok (.iconst 1, 1) := by decide +kernel
theorem dX0_has_13 : decode cX0_has 13 = .ok (.goto 4, 3) := by decide +kernel
theorem dX0_has_16 : decode cX0_has 16 = .ok (.iconst 0, 1) := by decide +kernel
theorem dX0_has_17 : decode cX0_has 17 = .ok (.ireturn, 1) := by decide +kernel
theorem dX0_isOpen_0 : decode cX0_isOpen 0 = .ok (.aload_n 0, 1) := by decide +kernel
theorem dX0_isOpen_1 : decode cX0_isOpen 1 = .ok (.iload_n 1, 1) := by decide +kernel
theorem dX0_isOpen_2 : decode cX0_isOpen 2 = .ok (.invokevirtual 29, 3) := by decide +kernel
theorem dX0_isOpen_5 : decode cX0_isOpen 5 = .ok (.ifCond .eq 17, 3) := by decide +kernel
theorem dX0_isOpen_8 : decode cX0_isOpen 8 = .ok (.aload_n 0, 1) := by decide +kernel
theorem dX0_isOpen_9 : decode cX0_isOpen 9 = .ok (.getfield 18, 3) := by decide +kernel
theorem dX0_isOpen_12 : decode cX0_isOpen 12 = .ok (.iload_n 1, 1) := by decide +kernel
theorem dX0_isOpen_13 : decode cX0_isOpen 13 = .ok (.iaload, 1) := by decide +kernel
theorem dX0_isOpen_14 : decode cX0_isOpen 14 = .ok (.iconst 2, 1) := by decide +kernel
theorem dX0_isOpen_15 : decode cX0_isOpen 15 = .ok (.if_icmp .ne 7, 3) := by decide +kernel
theorem dX0_isOpen_18 : decode cX0_isOpen 18 = .ok (.iconst 1, 1) := by decide +kernel
theorem dX0_isOpen_19 : decode cX0_isOpen 19 = .ok (.goto 4, 3) := by decide +kernel
theorem dX0_isOpen_22 : decode cX0_isOpen 22 = .ok (.iconst 0, 1) := by decide +kernel
theorem dX0_isOpen_23 : decode cX0_isOpen 23 = .ok (.ireturn, 1) := by decide +kernel
theorem dX0_isOf_0 : decode cX0_isOf 0 = .ok (.aload_n 0, 1) := by decide +kernel
theorem dX0_isOf_1 : decode cX0_isOf 1 = .ok (.iload_n 1, 1) := by decide +kernel
theorem dX0_isOf_2 : decode cX0_isOf 2 = .ok (.invokevirtual 29, 3) := by decide +kernel
theorem dX0_isOf_5 : decode cX0_isOf 5 = .ok (.ifCond .eq 27, 3) := by decide +kernel
theorem dX0_isOf_8 : decode cX0_isOf 8 = .ok (.aload_n 0, 1) := by decide +kernel
theorem dX0_isOf_9 : decode cX0_isOf 9 = .ok (.getfield 9, 3) := by decide +kernel
theorem dX0_isOf_12 : decode cX0_isOf 12 = .ok (.iload_n 1, 1) := by decide +kernel
theorem dX0_isOf_13 : decode cX0_isOf 13 = .ok (.iaload, 1) := by decide +kernel
theorem dX0_isOf_14 : decode cX0_isOf 14 = .ok (.iload_n 2, 1) := by decide +kernel
theorem dX0_isOf_15 : decode cX0_isOf 15 = .ok (.if_icmp .eq 13, 3) := by decide +kernel
theorem dX0_isOf_18 : decode cX0_isOf 18 = .ok (.aload_n 0, 1) := by decide +kernel
theorem dX0_isOf_19 : decode cX0_isOf 19 = .ok (.getfield 15, 3) := by decide +kernel
theorem dX0_isOf_22 : decode cX0_isOf 22 = .ok (.iload_n 1, 1) := by decide +kernel
theorem dX0_isOf_23 : decode cX0_isOf 23 = .ok (.iaload, 1) := by decide +kernel
theorem dX0_isOf_24 : decode cX0_isOf 24 = .ok (.iload_n 2, 1) := by decide +kernel
theorem dX0_isOf_25 : decode cX0_isOf 25 = .ok (.if_icmp .ne 7, 3) := by decide +kernel
theorem dX0_isOf_28 : decode cX0_isOf 28 = .ok (.iconst 1, 1) := by decide +kernel
theorem dX0_isOf_29 : decode cX0_isOf 29 = .ok (.goto 4, 3) := by decide +kernel
theorem dX0_isOf_32 : decode cX0_isOf 32 = .ok (.iconst 0, 1) := by decide +kernel
theorem dX0_isOf_33 : decode cX0_isOf 33 = .ok (.ireturn, 1) := by decide +kernel
theorem dX0_openOnes_0 : decode cX0_openOnes 0 = .ok (.iconst 0, 1) := by decide +kernel
theorem dX0_openOnes_1 : decode cX0_openOnes 1 = .ok (.istore_n 1, 1) := by decide +kernel
theorem dX0_openOnes_2 : decode cX0_openOnes 2 = .ok (.iconst 0, 1) := by decide +kernel
theorem dX0_openOnes_3 : decode cX0_openOnes 3 = .ok (.istore_n 2, 1) := by decide +kernel
theorem dX0_openOnes_4 : decode cX0_openOnes 4 = .ok (.iload_n 2, 1) := by decide +kernel
theorem dX0_openOnes_5 : decode cX0_openOnes 5 = .ok (.aload_n 0, 1) := by decide +kernel
theorem dX0_openOnes_6 : decode cX0_openOnes 6 = .ok (.getfield 21, 3) := by decide +kernel
theorem dX0_openOnes_9 : decode cX0_openOnes 9 = .ok (.if_icmp .ge 22, 3) := by decide +kernel
theorem dX0_openOnes_12 : decode cX0_openOnes 12 = .ok (.aload_n 0, 1) := by decide +kernel
theorem dX0_openOnes_13 : decode cX0_openOnes 13 = .ok (.getfield 18, 3) := by decide +kernel
theorem dX0_openOnes_16 : decode cX0_openOnes 16 = .ok (.iload_n 2, 1) := by decide +kernel
theorem dX0_openOnes_17 : decode cX0_openOnes 17 = .ok (.iaload, 1) := by decide +kernel
theorem dX0_openOnes_18 : decode cX0_openOnes 18 = .ok (.iconst 2, 1) := by decide +kernel
theorem dX0_openOnes_19 : decode cX0_openOnes 19 = .ok (.if_icmp .ne 6, 3) := by decide +kernel
theorem dX0_openOnes_22 : decode cX0_openOnes 22 = .ok (.iinc 1 1, 3) := by decide +kernel
theorem dX0_openOnes_25 : decode cX0_openOnes 25 = .ok (.iinc 2 1, 3) := by decide +kernel
theorem dX0_openOnes_28 : decode cX0_openOnes 28 = .ok (.goto (-24), 3) := by decide +kernel
theorem dX0_openOnes_31 : decode cX0_openOnes 31 = .ok (.iload_n 1, 1) := by decide +kernel
theorem dX0_openOnes_32 : decode cX0_openOnes 32 = .ok (.ireturn, 1) := by decide +kernel
theorem dX0_openOf_0 : decode cX0_openOf 0 = .ok (.iconst 0, 1) := by decide +kernel
theorem dX0_openOf_1 : decode cX0_openOf 1 = .ok (.istore_n 2, 1) := by decide +kernel
theorem dX0_openOf_2 : decode cX0_openOf 2 = .ok (.iconst 0, 1) := by decide +kernel
theorem dX0_openOf_3 : decode cX0_openOf 3 = .ok (.istore_n 3, 1) := by decide +kernel
theorem dX0_openOf_4 : decode cX0_openOf 4 = .ok (.iload_n 3, 1) := by decide +kernel
theorem dX0_openOf_5 : decode cX0_openOf 5 = .ok (.aload_n 0, 1) := by decide +kernel
theorem dX0_openOf_6 : decode cX0_openOf 6 = .ok (.getfield 21, 3) := by decide +kernel
theorem dX0_openOf_9 : decode cX0_openOf 9 = .ok (.if_icmp .ge 31, 3) := by decide +kernel
theorem dX0_openOf_12 : decode cX0_openOf 12 = .ok (.aload_n 0, 1) := by decide +kernel
theorem dX0_openOf_13 : decode cX0_openOf 13 = .ok (.getfield 18, 3) := by decide +kernel
theorem dX0_openOf_16 : decode cX0_openOf 16 = .ok (.iload_n 3, 1) := by decide +kernel
theorem dX0_openOf_17 : decode cX0_openOf 17 = .ok (.iaload, 1) := by decide +kernel
theorem dX0_openOf_18 : decode cX0_openOf 18 = .ok (.iconst 2, 1) := by decide +kernel
theorem dX0_openOf_19 : decode cX0_openOf 19 = .ok (.if_icmp .ne 15, 3) := by decide +kernel
theorem dX0_openOf_22 : decode cX0_openOf 22 = .ok (.aload_n 0, 1) := by decide +kernel
theorem dX0_openOf_23 : decode cX0_openOf 23 = .ok (.iload_n 3, 1) := by decide +kernel
theorem dX0_openOf_24 : decode cX0_openOf 24 = .ok (.iload_n 1, 1) := by decide +kernel
theorem dX0_openOf_25 : decode cX0_openOf 25 = .ok (.invokevirtual 33, 3) := by decide +kernel
theorem dX0_openOf_28 : decode cX0_openOf 28 = .ok (.ifCond .eq 6, 3) := by decide +kernel
theorem dX0_openOf_31 : decode cX0_openOf 31 = .ok (.iinc 2 1, 3) := by decide +kernel
theorem dX0_openOf_34 : decode cX0_openOf 34 = .ok (.iinc 3 1, 3) := by decide +kernel
theorem dX0_openOf_37 : decode cX0_openOf 37 = .ok (.goto (-33), 3) := by decide +kernel
theorem dX0_openOf_40 : decode cX0_openOf 40 = .ok (.iload_n 2, 1) := by decide +kernel
theorem dX0_openOf_41 : decode cX0_openOf 41 = .ok (.ireturn, 1) := by decide +kernel
theorem dX0_winner_0 : decode cX0_winner 0 = .ok (.aload_n 0, 1) := by decide +kernel
theorem dX0_winner_1 : decode cX0_winner 1 = .ok (.getfield 18, 3) := by decide +kernel
theorem dX0_winner_4 : decode cX0_winner 4 = .ok (.iload_n 1, 1) := by decide +kernel
theorem dX0_winner_5 : decode cX0_winner 5 = .ok (.iaload, 1) := by decide +kernel
theorem dX0_winner_6 : decode cX0_winner 6 = .ok (.ifCond .ne 12, 3) := by decide +kernel
theorem dX0_winner_9 : decode cX0_winner 9 = .ok (.aload_n 0, 1) := by decide +kernel
theorem dX0_winner_10 : decode cX0_winner 10 = .ok (.getfield 9, 3) := by decide +kernel
theorem dX0_winner_13 : decode cX0_winner 13 = .ok (.iload_n 1, 1) := by decide +kernel
theorem dX0_winner_14 : decode cX0_winner 14 = .ok (.iaload, 1) := by decide +kernel
theorem dX0_winner_15 : decode cX0_winner 15 = .ok (.goto 9, 3) := by decide +kernel
theorem dX0_winner_18 : decode cX0_winner 18 = .ok (.aload_n 0, 1) := by decide +kernel
theorem dX0_winner_19 : decode cX0_winner 19 = .ok (.getfield 15, 3) := by decide +kernel
theorem dX0_winner_22 : decode cX0_winner 22 = .ok (.iload_n 1, 1) := by decide +kernel
theorem dX0_winner_23 : decode cX0_winner 23 = .ok (.iaload, 1) := by decide +kernel
theorem dX0_winner_24 : decode cX0_winner 24 = .ok (.ireturn, 1) := by decide +kernel
theorem dX1_init_0 : decode cX1_init 0 = .ok (.aload_n 0, 1) := by decide +kernel
theorem dX1_init_1 : decode cX1_init 1 = .ok (.invokespecial 3, 3) := by decide +kernel
theorem dX1_init_4 : decode cX1_init 4 = .ok (.aload_n 0, 1) := by decide +kernel
theorem dX1_init_5 : decode cX1_init 5 = .ok (.new 9, 3) := by decide +kernel
theorem dX1_init_8 : decode cX1_init 8 = .ok (.dup, 1) := by decide +kernel
theorem dX1_init_9 : decode cX1_init 9 = .ok (.invokespecial 11, 3) := by decide +kernel
theorem dX1_init_12 : decode cX1_init 12 = .ok (.putfield 12, 3) := by decide +kernel
theorem dX1_init_15 : decode cX1_init 15 = .ok (.aload_n 0, 1) := by decide +kernel
theorem dX1_init_16 : decode cX1_init 16 = .ok (.new 18, 3) := by decide +kernel
theorem dX1_init_19 : decode cX1_init 19 = .ok (.dup, 1) := by decide +kernel
theorem dX1_init_20 : decode cX1_init 20 = .ok (.invokespecial 20, 3) := by decide +kernel
theorem dX1_init_23 : decode cX1_init 23 = .ok (.putfield 21, 3) := by decide +kernel
theorem dX1_init_26 : decode cX1_init 26 = .ok (.aload_n 0, 1) := by decide +kernel
theorem dX1_init_27 : decode cX1_init 27 = .ok (.bipush 11, 2) := by decide +kernel
theorem dX1_init_29 : decode cX1_init 29 = .ok (.newarray .int, 2) := by decide +kernel
theorem dX1_init_31 : decode cX1_init 31 = .ok (.putfield 25, 3) := by decide +kernel
theorem dX1_init_34 : decode cX1_init 34 = .ok (.return_, 1) := by decide +kernel
theorem dX1_takeAll_0 : decode cX1_takeAll 0 = .ok (.aload_n 0, 1) := by decide +kernel
theorem dX1_takeAll_1 : decode cX1_takeAll 1 = .ok (.iconst 0, 1) := by decide +kernel
theorem dX1_takeAll_2 : decode cX1_takeAll 2 = .ok (.putfield 29, 3) := by decide +kernel
theorem dX1_takeAll_5 : decode cX1_takeAll 5 = .ok (.aload_n 0, 1) := by decide +kernel
theorem dX1_takeAll_6 : decode cX1_takeAll 6 = .ok (.iconst 0, 1) := by decide +kernel
theorem dX1_takeAll_7 : decode cX1_takeAll 7 = .ok (.putfield 33, 3) := by decide +kernel
theorem dX1_takeAll_10 : decode cX1_takeAll 10 = .ok (.aload_n 0, 1) := by decide +kernel
theorem dX1_takeAll_11 : decode cX1_takeAll 11 = .ok (.iconst 0, 1) := by decide +kernel
theorem dX1_takeAll_12 : decode cX1_takeAll 12 = .ok (.putfield 36, 3) := by decide +kernel
theorem dX1_takeAll_15 : decode cX1_takeAll 15 = .ok (.aload_n 0, 1) := by decide +kernel
theorem dX1_takeAll_16 : decode cX1_takeAll 16 = .ok (.iconst 0, 1) := by decide +kernel
theorem dX1_takeAll_17 : decode cX1_takeAll 17 = .ok (.putfield 39, 3) := by decide +kernel
theorem dX1_takeAll_20 : decode cX1_takeAll 20 = .ok (.aload_n 0, 1) := by decide +kernel
theorem dX1_takeAll_21 : decode cX1_takeAll 21 = .ok (.getfield 21, 3) := by decide +kernel
theorem dX1_takeAll_24 : decode cX1_takeAll 24 = .ok (.invokevirtual 42, 3) := by decide +kernel
theorem dX1_takeAll_27 : decode cX1_takeAll 27 = .ok (.iconst 0, 1) := by decide +kernel
theorem dX1_takeAll_28 : decode cX1_takeAll 28 = .ok (.istore_n 1, 1) := by decide +kernel
theorem dX1_takeAll_29 : decode cX1_takeAll 29 = .ok (.iload_n 1, 1) := by decide +kernel
theorem dX1_takeAll_30 : decode cX1_takeAll 30 = .ok (.bipush 11, 2) := by decide +kernel
theorem dX1_takeAll_32 : decode cX1_takeAll 32 = .ok (.if_icmp .ge 16, 3) := by decide +kernel
theorem dX1_takeAll_35 : decode cX1_takeAll 35 = .ok (.aload_n 0, 1) := by decide +kernel
theorem dX1_takeAll_36 : decode cX1_takeAll 36 = .ok (.getfield 25, 3) := by decide +kernel
theorem dX1_takeAll_39 : decode cX1_takeAll 39 = .ok (.iload_n 1, 1) := by decide +kernel
theorem dX1_takeAll_40 : decode cX1_takeAll 40 = .ok (.iconst 0, 1) := by decide +kernel
theorem dX1_takeAll_41 : decode cX1_takeAll 41 = .ok (.iastore, 1) := by decide +kernel
theorem dX1_takeAll_42 : decode cX1_takeAll 42 = .ok (.iinc 1 1, 3) := by decide +kernel
theorem dX1_takeAll_45 : decode cX1_takeAll 45 = .ok (.goto (-16), 3) := by decide +kernel
theorem dX1_takeAll_48 : decode cX1_takeAll 48 = .ok (.aload_n 0, 1) := by decide +kernel
theorem dX1_takeAll_49 : decode cX1_takeAll 49 = .ok (.getfield 12, 3) := by decide +kernel
theorem dX1_takeAll_52 : decode cX1_takeAll 52 = .ok (.invokevirtual 45, 3) := by decide +kernel
theorem dX1_takeAll_55 : decode cX1_takeAll 55 = .ok (.aload_n 0, 1) := by decide +kernel
theorem dX1_takeAll_56 : decode cX1_takeAll 56 = .ok (.getfield 29, 3) := by decide +kernel
theorem dX1_takeAll_59 : decode cX1_takeAll 59 = .ok (.sipush 240, 3) := by decide +kernel
theorem dX1_takeAll_62 : decode cX1_takeAll 62 = .ok (.if_icmp .ge 44, 3) := by decide +kernel
theorem dX1_takeAll_65 : decode cX1_takeAll 65 = .ok (.aload_n 0, 1) := by decide +kernel
theorem dX1_takeAll_66 : decode cX1_takeAll 66 = .ok (.getfield 12, 3) := by decide +kernel
theorem dX1_takeAll_69 : decode cX1_takeAll 69 = .ok (.getfield 48, 3) := by decide +kernel
theorem dX1_takeAll_72 : decode cX1_takeAll 72 = .ok (.aload_n 0, 1) := by decide +kernel
theorem dX1_takeAll_73 : decode cX1_takeAll 73 = .ok (.getfield 39, 3) := by decide +kernel
theorem dX1_takeAll_76 : decode cX1_takeAll 76 = .ok (.iaload, 1) := by decide +kernel
theorem dX1_takeAll_77 : decode cX1_takeAll 77 = .ok (.ifCond .eq 29, 3) := by decide +kernel
theorem dX1_takeAll_80 : decode cX1_takeAll 80 = .ok (.aload_n 0, 1) := by decide +kernel
theorem dX1_takeAll_81 : decode cX1_takeAll 81 = .ok (.invokevirtual 51, 3) := by decide +kernel
theorem dX1_takeAll_84 : decode cX1_takeAll 84 = .ok (.ifCond .ne 5, 3) := by decide +kernel
theorem dX1_takeAll_87 : decode cX1_takeAll 87 = .ok (.iconst 0, 1) := by decide +kernel
theorem dX1_takeAll_88 : decode cX1_takeAll 88 = .ok (.ireturn, 1) := by decide +kernel
theorem dX1_takeAll_89 : decode cX1_takeAll 89 = .ok (.aload_n 0, 1) := by decide +kernel
theorem dX1_takeAll_90 : decode cX1_takeAll 90 = .ok (.dup, 1) := by decide +kernel
theorem dX1_takeAll_91 : decode cX1_takeAll 91 = .ok (.getfield 29, 3) := by decide +kernel
theorem dX1_takeAll_94 : decode cX1_takeAll 94 = .ok (.iconst 1, 1) := by decide +kernel
theorem dX1_takeAll_95 : decode cX1_takeAll 95 = .ok (.iadd, 1) := by decide +kernel
theorem dX1_takeAll_96 : decode cX1_takeAll 96 = .ok (.putfield 29, 3) := by decide +kernel
theorem dX1_takeAll_99 : decode cX1_takeAll 99 = .ok (.aload_n 0, 1) := by decide +kernel
theorem dX1_takeAll_100 : decode cX1_takeAll 100 = .ok (.invokevirtual 55, 3) := by decide +kernel
theorem dX1_takeAll_103 : decode cX1_takeAll 103 = .ok (.goto (-48), 3) := by decide +kernel
theorem dX1_takeAll_106 : decode cX1_takeAll 106 = .ok (.aload_n 0, 1) := by decide +kernel
theorem dX1_takeAll_107 : decode cX1_takeAll 107 = .ok (.invokevirtual 58, 3) := by decide +kernel
theorem dX1_takeAll_110 : decode cX1_takeAll 110 = .ok (.ireturn, 1) := by decide +kernel
theorem dX1_fitsTogether_0 : decode cX1_fitsTogether 0 = .ok (.aload_n 0, 1) := by decide +kernel
theorem dX1_fitsTogether_1 : decode cX1_fitsTogether 1 = .ok (.getfield 21, 3) := by decide +kernel
theorem dX1_fitsTogether_4 : decode cX1_fitsTogether 4 = .ok (.getfield 61, 3) := by decide +kernel
theorem dX1_fitsTogether_7 : decode cX1_fitsTogether 7 = .ok (.iconst 1, 1) := by decide +kernel
theorem dX1_fitsTogether_8 : decode cX1_fitsTogether 8 = .ok (.if_icmp .ne 17, 3) := by decide +kernel
theorem dX1_fitsTogether_11 : decode cX1_fitsTogether 11 = .ok (.aload_n 0, 1) := by decide +kernel
theorem dX1_fitsTogether_12 : decode cX1_fitsTogether 12 = .ok (.getfield 21, 3) := by decide +kernel
theorem dX1_fitsTogether_15 : decode cX1_fitsTogether 15 = .ok (.invokevirtual 64, 3) := by decide +kernel
theorem dX1_fitsTogether_18 : decode cX1_fitsTogether 18 = .ok (.ifCond .ne 7, 3) := by decide +kernel
theorem dX1_fitsTogether_21 : decode cX1_fitsTogether 21 = .ok (.iconst 1, 1) := by decide +kernel
theorem dX1_fitsTogether_22 : decode cX1_fitsTogether 22 = .ok (.goto 4, 3) := by decide +kernel
theorem dX1_fitsTogether_25 : decode cX1_fitsTogether 25 = .ok (.iconst 0, 1) := by decide +kernel
theorem dX1_fitsTogether_26 : decode cX1_fitsTogether 26 = .ok (.istore_n 1, 1) := by decide +kernel
theorem dX1_fitsTogether_27 : decode cX1_fitsTogether 27 = .ok (.aload_n 0, 1) := by decide +kernel
theorem dX1_fitsTogether_28 : decode cX1_fitsTogether 28 = .ok (.getfield 21, 3) := by decide +kernel
theorem dX1_fitsTogether_31 : decode cX1_fitsTogether 31 = .ok (.getfield 61, 3) := by decide +kernel
theorem dX1_fitsTogether_34 : decode cX1_fitsTogether 34 = .ok (.iconst 3, 1) := by decide +kernel
theorem dX1_fitsTogether_35 : decode cX1_fitsTogether 35 = .ok (.if_icmp .ne 17, 3) := by decide +kernel
theorem dX1_fitsTogether_38 : decode cX1_fitsTogether 38 = .ok (.aload_n 0, 1) := by decide +kernel
theorem dX1_fitsTogether_39 : decode cX1_fitsTogether 39 = .ok (.getfield 21, 3) := by decide +kernel
theorem dX1_fitsTogether_42 : decode cX1_fitsTogether 42 = .ok (.invokevirtual 68, 3) := by decide +kernel
theorem dX1_fitsTogether_45 : decode cX1_fitsTogether 45 = .ok (.ifCond .eq 7, 3) := by decide +kernel
theorem dX1_fitsTogether_48 : decode cX1_fitsTogether 48 = .ok (.iconst 1, 1) := by decide +kernel
theorem dX1_fitsTogether_49 : decode cX1_fitsTogether 49 = .ok (.goto 4, 3) := by decide +kernel
theorem dX1_fitsTogether_52 : decode cX1_fitsTogether 52 = .ok (.iconst 0, 1) := by decide +kernel
theorem dX1_fitsTogether_53 : decode cX1_fitsTogether 53 = .ok (.istore_n 2, 1) := by decide +kernel
theorem dX1_fitsTogether_54 : decode cX1_fitsTogether 54 = .ok (.iload_n 1, 1) := by decide +kernel
theorem dX1_fitsTogether_55 : decode cX1_fitsTogether 55 = .ok (.ifCond .ne 7, 3) := by decide +kernel
theorem dX1_fitsTogether_58 : decode cX1_fitsTogether 58 = .ok (.iload_n 2, 1) := by decide +kernel
theorem dX1_fitsTogether_59 : decode cX1_fitsTogether 59 = .ok (.ifCond .eq 12, 3) := by decide +kernel
theorem dX1_fitsTogether_62 : decode cX1_fitsTogether 62 = .ok (.aload_n 0, 1) := by decide +kernel
theorem dX1_fitsTogether_63 : decode cX1_fitsTogether 63 = .ok (.bipush 6, 2) := by decide +kernel
theorem dX1_fitsTogether_65 : decode cX1_fitsTogether 65 = .ok (.invokevirtual 71, 3) := by decide +kernel
theorem dX1_fitsTogether_68 : decode cX1_fitsTogether 68 = .ok (.goto 4, 3) := by decide +kernel
theorem dX1_fitsTogether_71 : decode cX1_fitsTogether 71 = .ok (.iconst 1, 1) := by decide +kernel
theorem dX1_fitsTogether_72 : decode cX1_fitsTogether 72 = .ok (.ireturn, 1) := by decide +kernel
theorem dX1_fail_0 : decode cX1_fail 0 = .ok (.aload_n 0, 1) := by decide +kernel
theorem dX1_fail_1 : decode cX1_fail 1 = .ok (.iload_n 1, 1) := by decide +kernel
theorem dX1_fail_2 : decode cX1_fail 2 = .ok (.putfield 33, 3) := by decide +kernel
theorem dX1_fail_5 : decode cX1_fail 5 = .ok (.aload_n 0, 1) := by decide +kernel
theorem dX1_fail_6 : decode cX1_fail 6 = .ok (.aload_n 0, 1) := by decide +kernel
theorem dX1_fail_7 : decode cX1_fail 7 = .ok (.getfield 12, 3) := by decide +kernel
theorem dX1_fail_10 : decode cX1_fail 10 = .ok (.getfield 75, 3) := by decide +kernel
theorem dX1_fail_13 : decode cX1_fail 13 = .ok (.aload_n 0, 1) := by decide +kernel
theorem dX1_fail_14 : decode cX1_fail 14 = .ok (.getfield 39, 3) := by decide +kernel
theorem dX1_fail_17 : decode cX1_fail 17 = .ok (.iaload, 1) := by decide +kernel
theorem dX1_fail_18 : decode cX1_fail 18 = .ok (.putfield 36, 3) := by decide +kernel
theorem dX1_fail_21 : decode cX1_fail 21 = .ok (.iconst 0, 1) := by decide +kernel
theorem dX1_fail_22 : decode cX1_fail 22 = .ok (.ireturn, 1) := by decide +kernel
theorem dX1_takeLine_0 : decode cX1_takeLine 0 = .ok (.aload_n 0, 1) := by decide +kernel
theorem dX1_takeLine_1 : decode cX1_takeLine 1 = .ok (.iconst 1, 1) := by decide +kernel
theorem dX1_takeLine_2 : decode cX1_takeLine 2 = .ok (.invokevirtual 78, 3) := by decide +kernel
theorem dX1_takeLine_5 : decode cX1_takeLine 5 = .ok (.ifCond .ne 5, 3) := by decide +kernel
theorem dX1_takeLine_8 : decode cX1_takeLine 8 = .ok (.iconst 0, 1) := by decide +kernel
theorem dX1_takeLine_9 : decode cX1_takeLine 9 = .ok (.ireturn, 1) := by decide +kernel
theorem dX1_takeLine_10 : decode cX1_takeLine 10 = .ok (.aload_n 0, 1) := by decide +kernel
theorem dX1_takeLine_11 : decode cX1_takeLine 11 = .ok (.getfield 12, 3) := by decide +kernel
theorem dX1_takeLine_14 : decode cX1_takeLine 14 = .ok (.getfield 81, 3) := by decide +kernel
theorem dX1_takeLine_17 : decode cX1_takeLine 17 = .ok (.aload_n 0, 1) := by decide +kernel
theorem dX1_takeLine_18 : decode cX1_takeLine 18 = .ok (.getfield 39, 3) := by decide +kernel
theorem dX1_takeLine_21 : decode cX1_takeLine 21 = .ok (.iaload, 1) := by decide +kernel
theorem dX1_takeLine_22 : decode cX1_takeLine 22 = .ok (.tableswitch 173 0 7 #[46, 70, 89, 108, 54, 127, 146, 62], 46) := by decide +kernel
theorem dX1_takeLine_68 : decode cX1_takeLine 68 = .ok (.aload_n 0, 1) := by decide +kernel
theorem dX1_takeLine_69 : decode cX1_takeLine 69 = .ok (.invokevirtual 84, 3) := by decide +kernel
theorem dX1_takeLine_72 : decode cX1_takeLine 72 = .ok (.istore_n 1, 1) := by decide +kernel
theorem dX1_takeLine_73 : decode cX1_takeLine 73 = .ok (.goto 128, 3) := by decide +kernel
theorem dX1_takeLine_76 : decode cX1_takeLine 76 = .ok (.aload_n 0, 1) := by decide +kernel
theorem dX1_takeLine_77 : decode cX1_takeLine 77 = .ok (.invokevirtual 87, 3) := by decide +kernel
theorem dX1_takeLine_80 : decode cX1_takeLine 80 = .ok (.istore_n 1, 1) := by decide +kernel
theorem dX1_takeLine_81 : decode cX1_takeLine 81 = .ok (.goto 120, 3) := by decide +kernel
theorem dX1_takeLine_84 : decode cX1_takeLine 84 = .ok (.aload_n 0, 1) := by decide +kernel
theorem dX1_takeLine_85 : decode cX1_takeLine 85 = .ok (.invokevirtual 90, 3) := by decide +kernel
theorem dX1_takeLine_88 : decode cX1_takeLine 88 = .ok (.istore_n 1, 1) := by decide +kernel
theorem dX1_takeLine_89 : decode cX1_takeLine 89 = .ok (.goto 112, 3) := by decide +kernel
theorem dX1_takeLine_92 : decode cX1_takeLine 92 = .ok (.aload_n 0, 1) := by decide +kernel
theorem dX1_takeLine_93 : decode cX1_takeLine 93 = .ok (.iconst 1, 1) := by decide +kernel
theorem dX1_takeLine_94 : decode cX1_takeLine 94 = .ok (.aload_n 0, 1) := by decide +kernel
theorem dX1_takeLine_95 : decode cX1_takeLine 95 = .ok (.getfield 21, 3) := by decide +kernel
theorem dX1_takeLine_98 : decode cX1_takeLine 98 = .ok (.getfield 93, 3) := by decide +kernel
theorem dX1_takeLine_101 : decode cX1_takeLine 101 = .ok (.iconst 1, 1) := by decide +kernel
theorem dX1_takeLine_102 : decode cX1_takeLine 102 = .ok (.bipush 9, 2) := by decide +kernel
theorem dX1_takeLine_104 : decode cX1_takeLine 104 = .ok (.invokevirtual 96, 3) := by decide +kernel
theorem dX1_takeLine_107 : decode cX1_takeLine 107 = .ok (.istore_n 1, 1) := by decide +kernel
theorem dX1_takeLine_108 : decode cX1_takeLine 108 = .ok (.goto 93, 3) := by decide +kernel
theorem dX1_takeLine_111 : decode cX1_takeLine 111 = .ok (.aload_n 0, 1) := by decide +kernel
theorem dX1_takeLine_112 : decode cX1_takeLine 112 = .ok (.iconst 2, 1) := by decide +kernel
theorem dX1_takeLine_113 : decode cX1_takeLine 113 = .ok (.aload_n 0, 1) := by decide +kernel
theorem dX1_takeLine_114 : decode cX1_takeLine 114 = .ok (.getfield 21, 3) := by decide +kernel
theorem dX1_takeLine_117 : decode cX1_takeLine 117 = .ok (.getfield 100, 3) := by decide +kernel
theorem dX1_takeLine_120 : decode cX1_takeLine 120 = .ok (.iconst 0, 1) := by decide +kernel
theorem dX1_takeLine_121 : decode cX1_takeLine 121 = .ok (.bipush 99, 2) := by decide +kernel
theorem dX1_takeLine_123 : decode cX1_takeLine 123 = .ok (.invokevirtual 96, 3) := by decide +kernel
theorem dX1_takeLine_126 : decode cX1_takeLine 126 = .ok (.istore_n 1, 1) := by decide +kernel
theorem dX1_takeLine_127 : decode cX1_takeLine 127 = .ok (.goto 74, 3) := by decide +kernel
theorem dX1_takeLine_130 : decode cX1_takeLine 130 = .ok (.aload_n 0, 1) := by decide +kernel
theorem dX1_takeLine_131 : decode cX1_takeLine 131 = .ok (.iconst 3, 1) := by decide +kernel
theorem dX1_takeLine_132 : decode cX1_takeLine 132 = .ok (.aload_n 0, 1) := by decide +kernel
theorem dX1_takeLine_133 : decode cX1_takeLine 133 = .ok (.getfield 21, 3) := by decide +kernel
theorem dX1_takeLine_136 : decode cX1_takeLine 136 = .ok (.getfield 103, 3) := by decide +kernel
theorem dX1_takeLine_139 : decode cX1_takeLine 139 = .ok (.iconst 0, 1) := by decide +kernel
theorem dX1_takeLine_140 : decode cX1_takeLine 140 = .ok (.bipush 99, 2) := by decide +kernel
theorem dX1_takeLine_142 : decode cX1_takeLine 142 = .ok (.invokevirtual 96, 3) := by decide +kernel
theorem dX1_takeLine_145 : decode cX1_takeLine 145 = .ok (.istore_n 1, 1) := by decide +kernel
theorem dX1_takeLine_146 : decode cX1_takeLine 146 = .ok (.goto 55, 3) := by decide +kernel
theorem dX1_takeLine_149 : decode cX1_takeLine 149 = .ok (.aload_n 0, 1) := by decide +kernel
theorem dX1_takeLine_150 : decode cX1_takeLine 150 = .ok (.iconst 5, 1) := by decide +kernel
theorem dX1_takeLine_151 : decode cX1_takeLine 151 = .ok (.aload_n 0, 1) := by decide +kernel
theorem dX1_takeLine_152 : decode cX1_takeLine 152 = .ok (.getfield 21, 3) := by decide +kernel
theorem dX1_takeLine_155 : decode cX1_takeLine 155 = .ok (.getfield 106, 3) := by decide +kernel
theorem dX1_takeLine_158 : decode cX1_takeLine 158 = .ok (.iconst 0, 1) := by decide +kernel
theorem dX1_takeLine_159 : decode cX1_takeLine 159 = .ok (.bipush 20, 2) := by decide +kernel
theorem dX1_takeLine_161 : decode cX1_takeLine 161 = .ok (.invokevirtual 96, 3) := by decide +kernel
theorem dX1_takeLine_164 : decode cX1_takeLine 164 = .ok (.istore_n 1, 1) := by decide +kernel
theorem dX1_takeLine_165 : decode cX1_takeLine 165 = .ok (.goto 36, 3) := by decide +kernel
theorem dX1_takeLine_168 : decode cX1_takeLine 168 = .ok (.aload_n 0, 1) := by decide +kernel
theorem dX1_takeLine_169 : decode cX1_takeLine 169 = .ok (.bipush 6, 2) := by decide +kernel
theorem dX1_takeLine_171 : decode cX1_takeLine 171 = .ok (.aload_n 0, 1) := by decide +kernel
theorem dX1_takeLine_172 : decode cX1_takeLine 172 = .ok (.getfield 21, 3) := by decide +kernel
theorem dX1_takeLine_175 : decode cX1_takeLine 175 = .ok (.getfield 109, 3) := by decide +kernel
theorem dX1_takeLine_178 : decode cX1_takeLine 178 = .ok (.iconst 0, 1) := by decide +kernel
theorem dX1_takeLine_179 : decode cX1_takeLine 179 = .ok (.aload_n 0, 1) := by decide +kernel
theorem dX1_takeLine_180 : decode cX1_takeLine 180 = .ok (.getfield 21, 3) := by decide +kernel
theorem dX1_takeLine_183 : decode cX1_takeLine 183 = .ok (.getfield 112, 3) := by decide +kernel
theorem dX1_takeLine_186 : decode cX1_takeLine 186 = .ok (.iconst 1, 1) := by decide +kernel
theorem dX1_takeLine_187 : decode cX1_takeLine 187 = .ok (.isub, 1) := by decide +kernel
theorem dX1_takeLine_188 : decode cX1_takeLine 188 = .ok (.invokevirtual 96, 3) := by decide +kernel
theorem dX1_takeLine_191 : decode cX1_takeLine 191 = .ok (.istore_n 1, 1) := by decide +kernel
theorem dX1_takeLine_192 : decode cX1_takeLine 192 = .ok (.goto 9, 3) := by decide +kernel
theorem dX1_takeLine_195 : decode cX1_takeLine 195 = .ok (.aload_n 0, 1) := by decide +kernel
theorem dX1_takeLine_196 : decode cX1_takeLine 196 = .ok (.iconst 2, 1) := by decide +kernel
theorem dX1_takeLine_197 : decode cX1_takeLine 197 = .ok (.invokevirtual 71, 3) := by decide +kernel
theorem dX1_takeLine_200 : decode cX1_takeLine 200 = .ok (.istore_n 1, 1) := by decide +kernel
theorem dX1_takeLine_201 : decode cX1_takeLine 201 = .ok (.iload_n 1, 1) := by decide +kernel
theorem dX1_takeLine_202 : decode cX1_takeLine 202 = .ok (.ifCond .ne 5, 3) := by decide +kernel
theorem dX1_takeLine_205 : decode cX1_takeLine 205 = .ok (.iconst 0, 1) := by decide +kernel
theorem dX1_takeLine_206 : decode cX1_takeLine 206 = .ok (.ireturn, 1) := by decide +kernel
theorem dX1_takeLine_207 : decode cX1_takeLine 207 = .ok (.aload_n 0, 1) := by decide +kernel
theorem dX1_takeLine_208 : decode cX1_takeLine 208 = .ok (.invokevirtual 55, 3) := by decide +kernel
theorem dX1_takeLine_211 : decode cX1_takeLine 211 = .ok (.aload_n 0, 1) := by decide +kernel
theorem dX1_takeLine_212 : decode cX1_takeLine 212 = .ok (.iconst 3, 1) := by decide +kernel
theorem dX1_takeLine_213 : decode cX1_takeLine 213 = .ok (.invokevirtual 78, 3) := by decide +kernel
theorem dX1_takeLine_216 : decode cX1_takeLine 216 = .ok (.ireturn, 1) := by decide +kernel
theorem dX1_takeSides_0 : decode cX1_takeSides 0 = .ok (.aload_n 0, 1) := by decide +kernel
theorem dX1_takeSides_1 : decode cX1_takeSides 1 = .ok (.getfield 25, 3) := by decide +kernel
theorem dX1_takeSides_4 : decode cX1_takeSides 4 = .ok (.iconst 1, 1) := by decide +kernel
theorem dX1_takeSides_5 : decode cX1_takeSides 5 = .ok (.iaload, 1) := by decide +kernel
theorem dX1_takeSides_6 : decode cX1_takeSides 6 = .ok (.aload_n 0, 1) := by decide +kernel
theorem dX1_takeSides_7 : decode cX1_takeSides 7 = .ok (.getfield 25, 3) := by decide +kernel
theorem dX1_takeSides_10 : decode cX1_takeSides 10 = .ok (.iconst 2, 1) := by decide +kernel
theorem dX1_takeSides_11 : decode cX1_takeSides 11 = .ok (.iaload, 1) := by decide +kernel
theorem dX1_takeSides_12 : decode cX1_takeSides 12 = .ok (.ior, 1) := by decide +kernel
theorem dX1_takeSides_13 : decode cX1_takeSides 13 = .ok (.aload_n 0, 1) := by decide +kernel
theorem dX1_takeSides_14 : decode cX1_takeSides 14 = .ok (.getfield 25, 3) := by decide +kernel
theorem dX1_takeSides_17 : decode cX1_takeSides 17 = .ok (.iconst 3, 1) := by decide +kernel
theorem dX1_takeSides_18 : decode cX1_takeSides 18 = .ok (.iaload, 1) := by decide +kernel
theorem dX1_takeSides_19 : decode cX1_takeSides 19 = .ok (.ior, 1) := by decide +kernel
theorem dX1_takeSides_20 : decode cX1_takeSides 20 = .ok (.aload_n 0, 1) := by decide +kernel
theorem dX1_takeSides_21 : decode cX1_takeSides 21 = .ok (.getfield 25, 3) := by decide +kernel
theorem dX1_takeSides_24 : decode cX1_takeSides 24 = .ok (.iconst 5, 1) := by decide +kernel
theorem dX1_takeSides_25 : decode cX1_takeSides 25 = .ok (.iaload, 1) := by decide +kernel
theorem dX1_takeSides_26 : decode cX1_takeSides 26 = .ok (.ior, 1) := by decide +kernel
theorem dX1_takeSides_27 : decode cX1_takeSides 27 = .ok (.aload_n 0, 1) := by decide +kernel
theorem dX1_takeSides_28 : decode cX1_takeSides 28 = .ok (.getfield 25, 3) := by decide +kernel
theorem dX1_takeSides_31 : decode cX1_takeSides 31 = .ok (.bipush 6, 2) := by decide +kernel
theorem dX1_takeSides_33 : decode cX1_takeSides 33 = .ok (.iaload, 1) := by decide +kernel
theorem dX1_takeSides_34 : decode cX1_takeSides 34 = .ok (.ior, 1) := by decide +kernel
theorem dX1_takeSides_35 : decode cX1_takeSides 35 = .ok (.aload_n 0, 1) := by decide +kernel
theorem dX1_takeSides_36 : decode cX1_takeSides 36 = .ok (.getfield 25, 3) := by decide +kernel
theorem dX1_takeSides_39 : decode cX1_takeSides 39 = .ok (.bipush 7, 2) := by decide +kernel
theorem dX1_takeSides_41 : decode cX1_takeSides 41 = .ok (.iaload, 1) := by decide +kernel
theorem dX1_takeSides_42 : decode cX1_takeSides 42 = .ok (.ior, 1) := by decide +kernel
theorem dX1_takeSides_43 : decode cX1_takeSides 43 = .ok (.istore_n 1, 1) := by decide +kernel
theorem dX1_takeSides_44 : decode cX1_takeSides 44 = .ok (.aload_n 0, 1) := by decide +kernel
theorem dX1_takeSides_45 : decode cX1_takeSides 45 = .ok (.getfield 25, 3) := by decide +kernel
theorem dX1_takeSides_48 : decode cX1_takeSides 48 = .ok (.iconst 0, 1) := by decide +kernel
theorem dX1_takeSides_49 : decode cX1_takeSides 49 = .ok (.iaload, 1) := by decide +kernel
theorem dX1_takeSides_50 : decode cX1_takeSides 50 = .ok (.ifCond .ne 7, 3) := by decide +kernel
theorem dX1_takeSides_53 : decode cX1_takeSides 53 = .ok (.iload_n 1, 1) := by decide +kernel
theorem dX1_takeSides_54 : decode cX1_takeSides 54 = .ok (.ifCond .eq 9, 3) := by decide +kernel
theorem dX1_takeSides_57 : decode cX1_takeSides 57 = .ok (.aload_n 0, 1) := by decide +kernel
theorem dX1_takeSides_58 : decode cX1_takeSides 58 = .ok (.iconst 4, 1) := by decide +kernel
theorem dX1_takeSides_59 : decode cX1_takeSides 59 = .ok (.invokevirtual 71, 3) := by decide +kernel
theorem dX1_takeSides_62 : decode cX1_takeSides 62 = .ok (.ireturn, 1) := by decide +kernel
theorem dX1_takeSides_63 : decode cX1_takeSides 63 = .ok (.aload_n 0, 1) := by decide +kernel
theorem dX1_takeSides_64 : decode cX1_takeSides 64 = .ok (.getfield 25, 3) := by decide +kernel
theorem dX1_takeSides_67 : decode cX1_takeSides 67 = .ok (.iconst 0, 1) := by decide +kernel
theorem dX1_takeSides_68 : decode cX1_takeSides 68 = .ok (.iconst 1, 1) := by decide +kernel
theorem dX1_takeSides_69 : decode cX1_takeSides 69 = .ok (.iastore, 1) := by decide +kernel
theorem dX1_takeSides_70 : decode cX1_takeSides 70 = .ok (.aload_n 0, 1) := by decide +kernel
theorem dX1_takeSides_71 : decode cX1_takeSides 71 = .ok (.iconst 2, 1) := by decide +kernel
theorem dX1_takeSides_72 : decode cX1_takeSides 72 = .ok (.bipush 6, 2) := by decide +kernel
theorem dX1_takeSides_74 : decode cX1_takeSides 74 = .ok (.invokevirtual 115, 3) := by decide +kernel
theorem dX1_takeSides_77 : decode cX1_takeSides 77 = .ok (.ifCond .ne 5, 3) := by decide +kernel
theorem dX1_takeSides_80 : decode cX1_takeSides 80 = .ok (.iconst 0, 1) := by decide +kernel
theorem dX1_takeSides_81 : decode cX1_takeSides 81 = .ok (.ireturn, 1) := by decide +kernel
theorem dX1_takeSides_82 : decode cX1_takeSides 82 = .ok (.aload_n 0, 1) := by decide +kernel
theorem dX1_takeSides_83 : decode cX1_takeSides 83 = .ok (.getfield 21, 3) := by decide +kernel
theorem dX1_takeSides_86 : decode cX1_takeSides 86 = .ok (.aload_n 0, 1) := by decide +kernel
theorem dX1_takeSides_87 : decode cX1_takeSides 87 = .ok (.getfield 12, 3) := by decide +kernel
theorem dX1_takeSides_90 : decode cX1_takeSides 90 = .ok (.getfield 81, 3) := by decide +kernel
theorem dX1_takeSides_93 : decode cX1_takeSides 93 = .ok (.aload_n 0, 1) := by decide +kernel
theorem dX1_takeSides_94 : decode cX1_takeSides 94 = .ok (.getfield 39, 3) := by decide +kernel
theorem dX1_takeSides_97 : decode cX1_takeSides 97 = .ok (.iaload, 1) := by decide +kernel
theorem dX1_takeSides_98 : decode cX1_takeSides 98 = .ok (.putfield 112, 3) := by decide +kernel
theorem dX1_takeSides_101 : decode cX1_takeSides 101 = .ok (.iconst 1, 1) := by decide +kernel
theorem dX1_takeSides_102 : decode cX1_takeSides 102 = .ok (.ireturn, 1) := by decide +kernel
theorem dX1_takeRule_0 : decode cX1_takeRule 0 = .ok (.aload_n 0, 1) := by decide +kernel
theorem dX1_takeRule_1 : decode cX1_takeRule 1 = .ok (.getfield 25, 3) := by decide +kernel
theorem dX1_takeRule_4 : decode cX1_takeRule 4 = .ok (.iconst 4, 1) := by decide +kernel
theorem dX1_takeRule_5 : decode cX1_takeRule 5 = .ok (.iaload, 1) := by decide +kernel
theorem dX1_takeRule_6 : decode cX1_takeRule 6 = .ok (.ifCond .eq 9, 3) := by decide +kernel
theorem dX1_takeRule_9 : decode cX1_takeRule 9 = .ok (.aload_n 0, 1) := by decide +kernel
theorem dX1_takeRule_10 : decode cX1_takeRule 10 = .ok (.iconst 4, 1) := by decide +kernel
theorem dX1_takeRule_11 : decode cX1_takeRule 11 = .ok (.invokevirtual 71, 3) := by decide +kernel
theorem dX1_takeRule_14 : decode cX1_takeRule 14 = .ok (.ireturn, 1) := by decide +kernel
theorem dX1_takeRule_15 : decode cX1_takeRule 15 = .ok (.aload_n 0, 1) := by decide +kernel
theorem dX1_takeRule_16 : decode cX1_takeRule 16 = .ok (.getfield 25, 3) := by decide +kernel
theorem dX1_takeRule_19 : decode cX1_takeRule 19 = .ok (.iconst 4, 1) := by decide +kernel
theorem dX1_takeRule_20 : decode cX1_takeRule 20 = .ok (.iconst 1, 1) := by decide +kernel
theorem dX1_takeRule_21 : decode cX1_takeRule 21 = .ok (.iastore, 1) := by decide +kernel
theorem dX1_takeRule_22 : decode cX1_takeRule 22 = .ok (.aload_n 0, 1) := by decide +kernel
theorem dX1_takeRule_23 : decode cX1_takeRule 23 = .ok (.invokevirtual 55, 3) := by decide +kernel
theorem dX1_takeRule_26 : decode cX1_takeRule 26 = .ok (.aload_n 0, 1) := by decide +kernel
theorem dX1_takeRule_27 : decode cX1_takeRule 27 = .ok (.iconst 1, 1) := by decide +kernel
theorem dX1_takeRule_28 : decode cX1_takeRule 28 = .ok (.invokevirtual 78, 3) := by decide +kernel
theorem dX1_takeRule_31 : decode cX1_takeRule 31 = .ok (.ifCond .ne 5, 3) := by decide +kernel
theorem dX1_takeRule_34 : decode cX1_takeRule 34 = .ok (.iconst 0, 1) := by decide +kernel
theorem dX1_takeRule_35 : decode cX1_takeRule 35 = .ok (.ireturn, 1) := by decide +kernel
theorem dX1_takeRule_36 : decode cX1_takeRule 36 = .ok (.aload_n 0, 1) := by decide +kernel
theorem dX1_takeRule_37 : decode cX1_takeRule 37 = .ok (.getfield 12, 3) := by decide +kernel
theorem dX1_takeRule_40 : decode cX1_takeRule 40 = .ok (.getfield 81, 3) := by decide +kernel
theorem dX1_takeRule_43 : decode cX1_takeRule 43 = .ok (.aload_n 0, 1) := by decide +kernel
theorem dX1_takeRule_44 : decode cX1_takeRule 44 = .ok (.getfield 39, 3) := by decide +kernel
theorem dX1_takeRule_47 : decode cX1_takeRule 47 = .ok (.iaload, 1) := by decide +kernel
theorem dX1_takeRule_48 : decode cX1_takeRule 48 = .ok (.tableswitch 90 5 10 #[50, 70, 90, 40, 60, 80], 40) := by decide +kernel
theorem dX1_takeRule_88 : decode cX1_takeRule 88 = .ok (.aload_n 0, 1) := by decide +kernel
theorem dX1_takeRule_89 : decode cX1_takeRule 89 = .ok (.getfield 21, 3) := by decide +kernel
theorem dX1_takeRule_92 : decode cX1_takeRule 92 = .ok (.iconst 0, 1) := by decide +kernel
theorem dX1_takeRule_93 : decode cX1_takeRule 93 = .ok (.putfield 61, 3) := by decide +kernel
theorem dX1_takeRule_96 : decode cX1_takeRule 96 = .ok (.iconst 1, 1) := by decide +kernel
theorem dX1_takeRule_97 : decode cX1_takeRule 97 = .ok (.ireturn, 1) := by decide +kernel
theorem dX1_takeRule_98 : decode cX1_takeRule 98 = .ok (.aload_n 0, 1) := by decide +kernel
theorem dX1_takeRule_99 : decode cX1_takeRule 99 = .ok (.getfield 21, 3) := by decide +kernel
theorem dX1_takeRule_102 : decode cX1_takeRule 102 = .ok (.iconst 1, 1) := by decide +kernel
theorem dX1_takeRule_103 : decode cX1_takeRule 103 = .ok (.putfield 61, 3) := by decide +kernel
theorem dX1_takeRule_106 : decode cX1_takeRule 106 = .ok (.iconst 1, 1) := by decide +kernel
theorem dX1_takeRule_107 : decode cX1_takeRule 107 = .ok (.ireturn, 1) := by decide +kernel
theorem dX1_takeRule_108 : decode cX1_takeRule 108 = .ok (.aload_n 0, 1) := by decide +kernel
theorem dX1_takeRule_109 : decode cX1_takeRule 109 = .ok (.getfield 21, 3) := by decide +kernel
theorem dX1_takeRule_112 : decode cX1_takeRule 112 = .ok (.iconst 2, 1) := by decide +kernel
theorem dX1_takeRule_113 : decode cX1_takeRule 113 = .ok (.putfield 61, 3) := by decide +kernel
theorem dX1_takeRule_116 : decode cX1_takeRule 116 = .ok (.iconst 1, 1) := by decide +kernel
theorem dX1_takeRule_117 : decode cX1_takeRule 117 = .ok (.ireturn, 1) := by decide +kernel
theorem dX1_takeRule_118 : decode cX1_takeRule 118 = .ok (.aload_n 0, 1) := by decide +kernel
theorem dX1_takeRule_119 : decode cX1_takeRule 119 = .ok (.getfield 21, 3) := by decide +kernel
theorem dX1_takeRule_122 : decode cX1_takeRule 122 = .ok (.iconst 3, 1) := by decide +kernel
theorem dX1_takeRule_123 : decode cX1_takeRule 123 = .ok (.putfield 61, 3) := by decide +kernel
theorem dX1_takeRule_126 : decode cX1_takeRule 126 = .ok (.iconst 1, 1) := by decide +kernel
theorem dX1_takeRule_127 : decode cX1_takeRule 127 = .ok (.ireturn, 1) := by decide +kernel
theorem dX1_takeRule_128 : decode cX1_takeRule 128 = .ok (.aload_n 0, 1) := by decide +kernel
theorem dX1_takeRule_129 : decode cX1_takeRule 129 = .ok (.getfield 21, 3) := by decide +kernel
theorem dX1_takeRule_132 : decode cX1_takeRule 132 = .ok (.iconst 4, 1) := by decide +kernel
theorem dX1_takeRule_133 : decode cX1_takeRule 133 = .ok (.putfield 61, 3) := by decide +kernel
theorem dX1_takeRule_136 : decode cX1_takeRule 136 = .ok (.iconst 1, 1) := by decide +kernel
theorem dX1_takeRule_137 : decode cX1_takeRule 137 = .ok (.ireturn, 1) := by decide +kernel
theorem dX1_takeRule_138 : decode cX1_takeRule 138 = .ok (.aload_n 0, 1) := by decide +kernel
theorem dX1_takeRule_139 : decode cX1_takeRule 139 = .ok (.iconst 2, 1) := by decide +kernel
theorem dX1_takeRule_140 : decode cX1_takeRule 140 = .ok (.invokevirtual 71, 3) := by decide +kernel
theorem dX1_takeRule_143 : decode cX1_takeRule 143 = .ok (.ireturn, 1) := by decide +kernel
theorem dX1_takeRound_0 : decode cX1_takeRound 0 = .ok (.aload_n 0, 1) := by decide +kernel
theorem dX1_takeRound_1 : decode cX1_takeRound 1 = .ok (.getfield 21, 3) := by decide +kernel
theorem dX1_takeRound_4 : decode cX1_takeRound 4 = .ok (.getfield 119, 3) := by decide +kernel
theorem dX1_takeRound_7 : decode cX1_takeRound 7 = .ok (.iconst 1, 1) := by decide +kernel
theorem dX1_takeRound_8 : decode cX1_takeRound 8 = .ok (.iadd, 1) := by decide +kernel
theorem dX1_takeRound_9 : decode cX1_takeRound 9 = .ok (.aload_n 0, 1) := by decide +kernel
theorem dX1_takeRound_10 : decode cX1_takeRound 10 = .ok (.getfield 21, 3) := by decide +kernel
theorem dX1_takeRound_13 : decode cX1_takeRound 13 = .ok (.invokevirtual 122, 3) := by decide +kernel
theorem dX1_takeRound_16 : decode cX1_takeRound 16 = .ok (.imul, 1) := by decide +kernel
theorem dX1_takeRound_17 : decode cX1_takeRound 17 = .ok (.bipush 30, 2) := by decide +kernel
theorem dX1_takeRound_19 : decode cX1_takeRound 19 = .ok (.if_icmp .le 9, 3) := by decide +kernel
theorem dX1_takeRound_22 : decode cX1_takeRound 22 = .ok (.aload_n 0, 1) := by decide +kernel
theorem dX1_takeRound_23 : decode cX1_takeRound 23 = .ok (.iconst 5, 1) := by decide +kernel
theorem dX1_takeRound_24 : decode cX1_takeRound 24 = .ok (.invokevirtual 71, 3) := by decide +kernel
theorem dX1_takeRound_27 : decode cX1_takeRound 27 = .ok (.ireturn, 1) := by decide +kernel
theorem dX1_takeRound_28 : decode cX1_takeRound 28 = .ok (.aload_n 0, 1) := by decide +kernel
theorem dX1_takeRound_29 : decode cX1_takeRound 29 = .ok (.getfield 25, 3) := by decide +kernel
theorem dX1_takeRound_32 : decode cX1_takeRound 32 = .ok (.bipush 7, 2) := by decide +kernel
theorem dX1_takeRound_34 : decode cX1_takeRound 34 = .ok (.iconst 1, 1) := by decide +kernel
theorem dX1_takeRound_35 : decode cX1_takeRound 35 = .ok (.iastore, 1) := by decide +kernel
theorem dX1_takeRound_36 : decode cX1_takeRound 36 = .ok (.aload_n 0, 1) := by decide +kernel
theorem dX1_takeRound_37 : decode cX1_takeRound 37 = .ok (.getfield 21, 3) := by decide +kernel
theorem dX1_takeRound_40 : decode cX1_takeRound 40 = .ok (.dup, 1) := by decide +kernel
theorem dX1_takeRound_41 : decode cX1_takeRound 41 = .ok (.getfield 119, 3) := by decide +kernel
theorem dX1_takeRound_44 : decode cX1_takeRound 44 = .ok (.iconst 1, 1) := by decide +kernel
theorem dX1_takeRound_45 : decode cX1_takeRound 45 = .ok (.iadd, 1) := by decide +kernel
theorem dX1_takeRound_46 : decode cX1_takeRound 46 = .ok (.putfield 119, 3) := by decide +kernel
theorem dX1_takeRound_49 : decode cX1_takeRound 49 = .ok (.iconst 1, 1) := by decide +kernel
theorem dX1_takeRound_50 : decode cX1_takeRound 50 = .ok (.ireturn, 1) := by decide +kernel
theorem dX1_takePair_0 : decode cX1_takePair 0 = .ok (.aload_n 0, 1) := by decide +kernel
theorem dX1_takePair_1 : decode cX1_takePair 1 = .ok (.iconst 0, 1) := by decide +kernel
theorem dX1_takePair_2 : decode cX1_takePair 2 = .ok (.aload_n 0, 1) := by decide +kernel
theorem dX1_takePair_3 : decode cX1_takePair 3 = .ok (.getfield 21, 3) := by decide +kernel
theorem dX1_takePair_6 : decode cX1_takePair 6 = .ok (.getfield 112, 3) := by decide +kernel
theorem dX1_takePair_9 : decode cX1_takePair 9 = .ok (.iconst 1, 1) := by decide +kernel
theorem dX1_takePair_10 : decode cX1_takePair 10 = .ok (.isub, 1) := by decide +kernel
theorem dX1_takePair_11 : decode cX1_takePair 11 = .ok (.invokevirtual 115, 3) := by decide +kernel
theorem dX1_takePair_14 : decode cX1_takePair 14 = .ok (.ifCond .ne 5, 3) := by decide +kernel
theorem dX1_takePair_17 : decode cX1_takePair 17 = .ok (.iconst 0, 1) := by decide +kernel
theorem dX1_takePair_18 : decode cX1_takePair 18 = .ok (.ireturn, 1) := by decide +kernel
theorem dX1_takePair_19 : decode cX1_takePair 19 = .ok (.aload_n 0, 1) := by decide +kernel
theorem dX1_takePair_20 : decode cX1_takePair 20 = .ok (.getfield 12, 3) := by decide +kernel
theorem dX1_takePair_23 : decode cX1_takePair 23 = .ok (.getfield 81, 3) := by decide +kernel
theorem dX1_takePair_26 : decode cX1_takePair 26 = .ok (.aload_n 0, 1) := by decide +kernel
theorem dX1_takePair_27 : decode cX1_takePair 27 = .ok (.getfield 39, 3) := by decide +kernel
theorem dX1_takePair_30 : decode cX1_takePair 30 = .ok (.iaload, 1) := by decide +kernel
theorem dX1_takePair_31 : decode cX1_takePair 31 = .ok (.istore 5, 2) := by decide +kernel
theorem dX1_takePair_33 : decode cX1_takePair 33 = .ok (.aload_n 0, 1) := by decide +kernel
theorem dX1_takePair_34 : decode cX1_takePair 34 = .ok (.getfield 25, 3) := by decide +kernel
theorem dX1_takePair_37 : decode cX1_takePair 37 = .ok (.iload_n 1, 1) := by decide +kernel
theorem dX1_takePair_38 : decode cX1_takePair 38 = .ok (.iaload, 1) := by decide +kernel
theorem dX1_takePair_39 : decode cX1_takePair 39 = .ok (.iconst 1, 1) := by decide +kernel
theorem dX1_takePair_40 : decode cX1_takePair 40 = .ok (.iload 5, 2) := by decide +kernel
theorem dX1_takePair_42 : decode cX1_takePair 42 = .ok (.ishl, 1) := by decide +kernel
theorem dX1_takePair_43 : decode cX1_takePair 43 = .ok (.iand, 1) := by decide +kernel
theorem dX1_takePair_44 : decode cX1_takePair 44 = .ok (.ifCond .eq 9, 3) := by decide +kernel
theorem dX1_takePair_47 : decode cX1_takePair 47 = .ok (.aload_n 0, 1) := by decide +kernel
theorem dX1_takePair_48 : decode cX1_takePair 48 = .ok (.iconst 4, 1) := by decide +kernel
theorem dX1_takePair_49 : decode cX1_takePair 49 = .ok (.invokevirtual 71, 3) := by decide +kernel
theorem dX1_takePair_52 : decode cX1_takePair 52 = .ok (.ireturn, 1) := by decide +kernel
theorem dX1_takePair_53 : decode cX1_takePair 53 = .ok (.aload_n 0, 1) := by decide +kernel
theorem dX1_takePair_54 : decode cX1_takePair 54 = .ok (.getfield 25, 3) := by decide +kernel
theorem dX1_takePair_57 : decode cX1_takePair 57 = .ok (.iload_n 1, 1) := by decide +kernel
theorem dX1_takePair_58 : decode cX1_takePair 58 = .ok (.dup2, 1) := by decide +kernel
theorem dX1_takePair_59 : decode cX1_takePair 59 = .ok (.iaload, 1) := by decide +kernel
theorem dX1_takePair_60 : decode cX1_takePair 60 = .ok (.iconst 1, 1) := by decide +kernel
theorem dX1_takePair_61 : decode cX1_takePair 61 = .ok (.iload 5, 2) := by decide +kernel
theorem dX1_takePair_63 : decode cX1_takePair 63 = .ok (.ishl, 1) := by decide +kernel
theorem dX1_takePair_64 : decode cX1_takePair 64 = .ok (.ior, 1) := by decide +kernel
theorem dX1_takePair_65 : decode cX1_takePair 65 = .ok (.iastore, 1) := by decide +kernel
theorem dX1_takePair_66 : decode cX1_takePair 66 = .ok (.aload_n 0, 1) := by decide +kernel
theorem dX1_takePair_67 : decode cX1_takePair 67 = .ok (.iload_n 3, 1) := by decide +kernel
theorem dX1_takePair_68 : decode cX1_takePair 68 = .ok (.iload 4, 2) := by decide +kernel
theorem dX1_takePair_70 : decode cX1_takePair 70 = .ok (.invokevirtual 115, 3) := by decide +kernel
theorem dX1_takePair_73 : decode cX1_takePair 73 = .ok (.ifCond .ne 5, 3) := by decide +kernel
theorem dX1_takePair_76 : decode cX1_takePair 76 = .ok (.iconst 0, 1) := by decide +kernel
theorem dX1_takePair_77 : decode cX1_takePair 77 = .ok (.ireturn, 1) := by decide +kernel
theorem dX1_takePair_78 : decode cX1_takePair 78 = .ok (.aload_n 2, 1) := by decide +kernel
theorem dX1_takePair_79 : decode cX1_takePair 79 = .ok (.iload 5, 2) := by decide +kernel
theorem dX1_takePair_81 : decode cX1_takePair 81 = .ok (.aload_n 0, 1) := by decide +kernel
theorem dX1_takePair_82 : decode cX1_takePair 82 = .ok (.getfield 12, 3) := by decide +kernel
theorem dX1_takePair_85 : decode cX1_takePair 85 = .ok (.getfield 81, 3) := by decide +kernel
theorem dX1_takePair_88 : decode cX1_takePair 88 = .ok (.aload_n 0, 1) := by decide +kernel
theorem dX1_takePair_89 : decode cX1_takePair 89 = .ok (.getfield 39, 3) := by decide +kernel
theorem dX1_takePair_92 : decode cX1_takePair 92 = .ok (.iaload, 1) := by decide +kernel
theorem dX1_takePair_93 : decode cX1_takePair 93 = .ok (.iastore, 1) := by decide +kernel
theorem dX1_takePair_94 : decode cX1_takePair 94 = .ok (.iconst 1, 1) := by decide +kernel
theorem dX1_takePair_95 : decode cX1_takePair 95 = .ok (.ireturn, 1) := by decide +kernel
theorem dX1_takeNumber_0 : decode cX1_takeNumber 0 = .ok (.aload_n 0, 1) := by decide +kernel
theorem dX1_takeNumber_1 : decode cX1_takeNumber 1 = .ok (.invokevirtual 55, 3) := by decide +kernel
theorem dX1_takeNumber_4 : decode cX1_takeNumber 4 = .ok (.aload_n 0, 1) := by decide +kernel
theorem dX1_takeNumber_5 : decode cX1_takeNumber 5 = .ok (.iconst 2, 1) := by decide +kernel
theorem dX1_takeNumber_6 : decode cX1_takeNumber 6 = .ok (.invokevirtual 78, 3) := by decide +kernel
theorem dX1_takeNumber_9 : decode cX1_takeNumber 9 = .ok (.ifCond .ne 5, 3) := by decide +kernel
theorem dX1_takeNumber_12 : decode cX1_takeNumber 12 = .ok (.iconst 0, 1) := by decide +kernel
theorem dX1_takeNumber_13 : decode cX1_takeNumber 13 = .ok (.ireturn, 1) := by decide +kernel
theorem dX1_takeNumber_14 : decode cX1_takeNumber 14 = .ok (.aload_n 0, 1) := by decide +kernel
theorem dX1_takeNumber_15 : decode cX1_takeNumber 15 = .ok (.getfield 12, 3) := by decide +kernel
theorem dX1_takeNumber_18 : decode cX1_takeNumber 18 = .ok (.getfield 81, 3) := by decide +kernel
theorem dX1_takeNumber_21 : decode cX1_takeNumber 21 = .ok (.aload_n 0, 1) := by decide +kernel
theorem dX1_takeNumber_22 : decode cX1_takeNumber 22 = .ok (.getfield 39, 3) := by decide +kernel
theorem dX1_takeNumber_25 : decode cX1_takeNumber 25 = .ok (.iaload, 1) := by decide +kernel
theorem dX1_takeNumber_26 : decode cX1_takeNumber 26 = .ok (.istore_n 3, 1) := by decide +kernel
theorem dX1_takeNumber_27 : decode cX1_takeNumber 27 = .ok (.iload_n 3, 1) := by decide +kernel
theorem dX1_takeNumber_28 : decode cX1_takeNumber 28 = .ok (.iload_n 1, 1) := by decide +kernel
theorem dX1_takeNumber_29 : decode cX1_takeNumber 29 = .ok (.if_icmp .lt 8, 3) := by decide +kernel
theorem dX1_takeNumber_32 : decode cX1_takeNumber 32 = .ok (.iload_n 3, 1) := by decide +kernel
theorem dX1_takeNumber_33 : decode cX1_takeNumber 33 = .ok (.iload_n 2, 1) := by decide +kernel
theorem dX1_takeNumber_34 : decode cX1_takeNumber 34 = .ok (.if_icmp .le 11, 3) := by decide +kernel
theorem dX1_takeNumber_37 : decode cX1_takeNumber 37 = .ok (.aload_n 0, 1) := by decide +kernel
theorem dX1_takeNumber_38 : decode cX1_takeNumber 38 = .ok (.iconst 3, 1) := by decide +kernel
theorem dX1_takeNumber_39 : decode cX1_takeNumber 39 = .ok (.invokevirtual 71, 3) := by decide +kernel
theorem dX1_takeNumber_42 : decode cX1_takeNumber 42 = .ok (.ifCond .eq 7, 3) := by decide +kernel
theorem dX1_takeNumber_45 : decode cX1_takeNumber 45 = .ok (.iconst 1, 1) := by decide +kernel
theorem dX1_takeNumber_46 : decode cX1_takeNumber 46 = .ok (.goto 4, 3) := by decide +kernel
theorem dX1_takeNumber_49 : decode cX1_takeNumber 49 = .ok (.iconst 0, 1) := by decide +kernel
theorem dX1_takeNumber_50 : decode cX1_takeNumber 50 = .ok (.ireturn, 1) := by decide +kernel
theorem dX1_step_0 : decode cX1_step 0 = .ok (.aload_n 0, 1) := by decide +kernel
theorem dX1_step_1 : decode cX1_step 1 = .ok (.getfield 39, 3) := by decide +kernel
theorem dX1_step_4 : decode cX1_step 4 = .ok (.sipush 240, 3) := by decide +kernel
theorem dX1_step_7 : decode cX1_step 7 = .ok (.if_icmp .ge 13, 3) := by decide +kernel
theorem dX1_step_10 : decode cX1_step 10 = .ok (.aload_n 0, 1) := by decide +kernel
theorem dX1_step_11 : decode cX1_step 11 = .ok (.dup, 1) := by decide +kernel
theorem dX1_step_12 : decode cX1_step 12 = .ok (.getfield 39, 3) := by decide +kernel
theorem dX1_step_15 : decode cX1_step 15 = .ok (.iconst 1, 1) := by decide +kernel
theorem dX1_step_16 : decode cX1_step 16 = .ok (.iadd, 1) := by decide +kernel
theorem dX1_step_17 : decode cX1_step 17 = .ok (.putfield 39, 3) := by decide +kernel
theorem dX1_step_20 : decode cX1_step 20 = .ok (.return_, 1) := by decide +kernel
theorem dX1_isDue_0 : decode cX1_isDue 0 = .ok (.aload_n 0, 1) := by decide +kernel
theorem dX1_isDue_1 : decode cX1_isDue 1 = .ok (.getfield 12, 3) := by decide +kernel
theorem dX1_isDue_4 : decode cX1_isDue 4 = .ok (.getfield 48, 3) := by decide +kernel
theorem dX1_isDue_7 : decode cX1_isDue 7 = .ok (.aload_n 0, 1) := by decide +kernel
theorem dX1_isDue_8 : decode cX1_isDue 8 = .ok (.getfield 39, 3) := by decide +kernel
theorem dX1_isDue_11 : decode cX1_isDue 11 = .ok (.iaload, 1) := by decide +kernel
theorem dX1_isDue_12 : decode cX1_isDue 12 = .ok (.iconst 4, 1) := by decide +kernel
theorem dX1_isDue_13 : decode cX1_isDue 13 = .ok (.if_icmp .ne 9, 3) := by decide +kernel
theorem dX1_isDue_16 : decode cX1_isDue 16 = .ok (.aload_n 0, 1) := by decide +kernel
theorem dX1_isDue_17 : decode cX1_isDue 17 = .ok (.iconst 1, 1) := by decide +kernel
theorem dX1_isDue_18 : decode cX1_isDue 18 = .ok (.invokevirtual 71, 3) := by decide +kernel
theorem dX1_isDue_21 : decode cX1_isDue 21 = .ok (.ireturn, 1) := by decide +kernel
theorem dX1_isDue_22 : decode cX1_isDue 22 = .ok (.aload_n 0, 1) := by decide +kernel
theorem dX1_isDue_23 : decode cX1_isDue 23 = .ok (.getfield 12, 3) := by decide +kernel
theorem dX1_isDue_26 : decode cX1_isDue 26 = .ok (.getfield 48, 3) := by decide +kernel
theorem dX1_isDue_29 : decode cX1_isDue 29 = .ok (.aload_n 0, 1) := by decide +kernel
theorem dX1_isDue_30 : decode cX1_isDue 30 = .ok (.getfield 39, 3) := by decide +kernel
theorem dX1_isDue_33 : decode cX1_isDue 33 = .ok (.iaload, 1) := by decide +kernel
theorem dX1_isDue_34 : decode cX1_isDue 34 = .ok (.iload_n 1, 1) := by decide +kernel
theorem dX1_isDue_35 : decode cX1_isDue 35 = .ok (.if_icmp .eq 11, 3) := by decide +kernel
theorem dX1_isDue_38 : decode cX1_isDue 38 = .ok (.aload_n 0, 1) := by decide +kernel
theorem dX1_isDue_39 : decode cX1_isDue 39 = .ok (.iconst 2, 1) := by decide +kernel
theorem dX1_isDue_40 : decode cX1_isDue 40 = .ok (.invokevirtual 71, 3) := by decide +kernel
theorem dX1_isDue_43 : decode cX1_isDue 43 = .ok (.ifCond .eq 7, 3) := by decide +kernel
theorem dX1_isDue_46 : decode cX1_isDue 46 = .ok (.iconst 1, 1) := by decide +kernel
theorem dX1_isDue_47 : decode cX1_isDue 47 = .ok (.goto 4, 3) := by decide +kernel
theorem dX1_isDue_50 : decode cX1_isDue 50 = .ok (.iconst 0, 1) := by decide +kernel
theorem dX1_isDue_51 : decode cX1_isDue 51 = .ok (.ireturn, 1) := by decide +kernel
theorem dX2_init_0 : decode cX2_init 0 = .ok (.aload_n 0, 1) := by decide +kernel
theorem dX2_init_1 : decode cX2_init 1 = .ok (.invokespecial 3, 3) := by decide +kernel
theorem dX2_init_4 : decode cX2_init 4 = .ok (.aload_n 0, 1) := by decide +kernel
theorem dX2_init_5 : decode cX2_init 5 = .ok (.bipush 6, 2) := by decide +kernel
theorem dX2_init_7 : decode cX2_init 7 = .ok (.newarray .int, 2) := by decide +kernel
theorem dX2_init_9 : decode cX2_init 9 = .ok (.putfield 9, 3) := by decide +kernel
theorem dX2_init_12 : decode cX2_init 12 = .ok (.aload_n 0, 1) := by decide +kernel
theorem dX2_init_13 : decode cX2_init 13 = .ok (.bipush 6, 2) := by decide +kernel
theorem dX2_init_15 : decode cX2_init 15 = .ok (.newarray .int, 2) := by decide +kernel
theorem dX2_init_17 : decode cX2_init 17 = .ok (.putfield 15, 3) := by decide +kernel
theorem dX2_init_20 : decode cX2_init 20 = .ok (.aload_n 0, 1) := by decide +kernel
theorem dX2_init_21 : decode cX2_init 21 = .ok (.bipush 6, 2) := by decide +kernel
theorem dX2_init_23 : decode cX2_init 23 = .ok (.newarray .int, 2) := by decide +kernel
theorem dX2_init_25 : decode cX2_init 25 = .ok (.putfield 18, 3) := by decide +kernel
theorem dX2_init_28 : decode cX2_init 28 = .ok (.aload_n 0, 1) := by decide +kernel
theorem dX2_init_29 : decode cX2_init 29 = .ok (.bipush 6, 2) := by decide +kernel
theorem dX2_init_31 : decode cX2_init 31 = .ok (.newarray .int, 2) := by decide +kernel
theorem dX2_init_33 : decode cX2_init 33 = .ok (.putfield 21, 3) := by decide +kernel
theorem dX2_init_36 : decode cX2_init 36 = .ok (.aload_n 0, 1) := by decide +kernel
theorem dX2_init_37 : decode cX2_init 37 = .ok (.bipush 6, 2) := by decide +kernel
theorem dX2_init_39 : decode cX2_init 39 = .ok (.newarray .int, 2) := by decide +kernel
theorem dX2_init_41 : decode cX2_init 41 = .ok (.putfield 24, 3) := by decide +kernel
theorem dX2_init_44 : decode cX2_init 44 = .ok (.return_, 1) := by decide +kernel
theorem dX2_reset_0 : decode cX2_reset 0 = .ok (.aload_n 0, 1) := by decide +kernel
theorem dX2_reset_1 : decode cX2_reset 1 = .ok (.iconst 4, 1) := by decide +kernel
theorem dX2_reset_2 : decode cX2_reset 2 = .ok (.putfield 27, 3) := by decide +kernel
theorem dX2_reset_5 : decode cX2_reset 5 = .ok (.aload_n 0, 1) := by decide +kernel
theorem dX2_reset_6 : decode cX2_reset 6 = .ok (.iconst 0, 1) := by decide +kernel
theorem dX2_reset_7 : decode cX2_reset 7 = .ok (.putfield 31, 3) := by decide +kernel
theorem dX2_reset_10 : decode cX2_reset 10 = .ok (.aload_n 0, 1) := by decide +kernel
theorem dX2_reset_11 : decode cX2_reset 11 = .ok (.iconst 0, 1) := by decide +kernel
theorem dX2_reset_12 : decode cX2_reset 12 = .ok (.putfield 34, 3) := by decide +kernel
theorem dX2_reset_15 : decode cX2_reset 15 = .ok (.iconst 0, 1) := by decide +kernel
theorem dX2_reset_16 : decode cX2_reset 16 = .ok (.istore_n 1, 1) := by decide +kernel
theorem dX2_reset_17 : decode cX2_reset 17 = .ok (.iload_n 1, 1) := by decide +kernel
theorem dX2_reset_18 : decode cX2_reset 18 = .ok (.bipush 6, 2) := by decide +kernel
theorem dX2_reset_20 : decode cX2_reset 20 = .ok (.if_icmp .ge 44, 3) := by decide +kernel
theorem dX2_reset_23 : decode cX2_reset 23 = .ok (.aload_n 0, 1) := by decide +kernel
theorem dX2_reset_24 : decode cX2_reset 24 = .ok (.getfield 9, 3) := by decide +kernel
theorem dX2_reset_27 : decode cX2_reset 27 = .ok (.iload_n 1, 1) := by decide +kernel
theorem dX2_reset_28 : decode cX2_reset 28 = .ok (.iconst 5, 1) := by decide +kernel
theorem dX2_reset_29 : decode cX2_reset 29 = .ok (.iastore, 1) := by decide +kernel
theorem dX2_reset_30 : decode cX2_reset 30 = .ok (.aload_n 0, 1) := by decide +kernel
theorem dX2_reset_31 : decode cX2_reset 31 = .ok (.getfield 15, 3) := by decide +kernel
theorem dX2_reset_34 : decode cX2_reset 34 = .ok (.iload_n 1, 1) := by decide +kernel
theorem dX2_reset_35 : decode cX2_reset 35 = .ok (.iconst 0, 1) := by decide +kernel
theorem dX2_reset_36 : decode cX2_reset 36 = .ok (.iastore, 1) := by decide +kernel
theorem dX2_reset_37 : decode cX2_reset 37 = .ok (.aload_n 0, 1) := by decide +kernel
theorem dX2_reset_38 : decode cX2_reset 38 = .ok (.getfield 18, 3) := by decide +kernel
theorem dX2_reset_41 : decode cX2_reset 41 = .ok (.iload_n 1, 1) := by decide +kernel
theorem dX2_reset_42 : decode cX2_reset 42 = .ok (.iconst 0, 1) := by decide +kernel
theorem dX2_reset_43 : decode cX2_reset 43 = .ok (.iastore, 1) := by decide +kernel
theorem dX2_reset_44 : decode cX2_reset 44 = .ok (.aload_n 0, 1) := by decide +kernel
theorem dX2_reset_45 : decode cX2_reset 45 = .ok (.getfield 21, 3) := by decide +kernel
theorem dX2_reset_48 : decode cX2_reset 48 = .ok (.iload_n 1, 1) := by decide +kernel
theorem dX2_reset_49 : decode cX2_reset 49 = .ok (.iconst 1, 1) := by decide +kernel
theorem dX2_reset_50 : decode cX2_reset 50 = .ok (.iastore, 1) := by decide +kernel
theorem dX2_reset_51 : decode cX2_reset 51 = .ok (.aload_n 0, 1) := by decide +kernel
theorem dX2_reset_52 : decode cX2_reset 52 = .ok (.getfield 24, 3) := by decide +kernel
theorem dX2_reset_55 : decode cX2_reset 55 = .ok (.iload_n 1, 1) := by decide +kernel
theorem dX2_reset_56 : decode cX2_reset 56 = .ok (.iload_n 1, 1) := by decide +kernel
theorem dX2_reset_57 : decode cX2_reset 57 = .ok (.iastore, 1) := by decide +kernel
theorem dX2_reset_58 : decode cX2_reset 58 = .ok (.iinc 1 1, 3) := by decide +kernel
theorem dX2_reset_61 : decode cX2_reset 61 = .ok (.goto (-44), 3) := by decide +kernel
theorem dX2_reset_64 : decode cX2_reset 64 = .ok (.return_, 1) := by decide +kernel
theorem dX2_copyFrom_0 : decode cX2_copyFrom 0 = .ok (.aload_n 0, 1) := by decide +kernel
theorem dX2_copyFrom_1 : decode cX2_copyFrom 1 = .ok (.aload_n 1, 1) := by decide +kernel
theorem dX2_copyFrom_2 : decode cX2_copyFrom 2 = .ok (.getfield 27, 3) := by decide +kernel
theorem dX2_copyFrom_5 : decode cX2_copyFrom 5 = .ok (.putfield 27, 3) := by decide +kernel
theorem dX2_copyFrom_8 : decode cX2_copyFrom 8 = .ok (.aload_n 0, 1) := by decide +kernel
theorem dX2_copyFrom_9 : decode cX2_copyFrom 9 = .ok (.aload_n 1, 1) := by decide +kernel
theorem dX2_copyFrom_10 : decode cX2_copyFrom 10 = .ok (.getfield 31, 3) := by decide +kernel
theorem dX2_copyFrom_13 : decode cX2_copyFrom 13 = .ok (.putfield 31, 3) := by decide +kernel
theorem dX2_copyFrom_16 : decode cX2_copyFrom 16 = .ok (.aload_n 0, 1) := by decide +kernel
theorem dX2_copyFrom_17 : decode cX2_copyFrom 17 = .ok (.aload_n 1, 1) := by decide +kernel
theorem dX2_copyFrom_18 : decode cX2_copyFrom 18 = .ok (.getfield 34, 3) := by decide +kernel
theorem dX2_copyFrom_21 : decode cX2_copyFrom 21 = .ok (.putfield 34, 3) := by decide +kernel
theorem dX2_copyFrom_24 : decode cX2_copyFrom 24 = .ok (.iconst 0, 1) := by decide +kernel
theorem dX2_copyFrom_25 : decode cX2_copyFrom 25 = .ok (.istore_n 2, 1) := by decide +kernel
theorem dX2_copyFrom_26 : decode cX2_copyFrom 26 = .ok (.iload_n 2, 1) := by decide +kernel
theorem dX2_copyFrom_27 : decode cX2_copyFrom 27 = .ok (.bipush 6, 2) := by decide +kernel
theorem dX2_copyFrom_29 : decode cX2_copyFrom 29 = .ok (.if_icmp .ge 69, 3) := by decide +kernel
theorem dX2_copyFrom_32 : decode cX2_copyFrom 32 = .ok (.aload_n 0, 1) := by decide +kernel
theorem dX2_copyFrom_33 : decode cX2_copyFrom 33 = .ok (.getfield 9, 3) := by decide +kernel
theorem dX2_copyFrom_36 : decode cX2_copyFrom 36 = .ok (.iload_n 2, 1) := by decide +kernel
theorem dX2_copyFrom_37 : decode cX2_copyFrom 37 = .ok (.aload_n 1, 1) := by decide +kernel
theorem dX2_copyFrom_38 : decode cX2_copyFrom 38 = .ok (.getfield 9, 3) := by decide +kernel
theorem dX2_copyFrom_41 : decode cX2_copyFrom 41 = .ok (.iload_n 2, 1) := by decide +kernel
theorem dX2_copyFrom_42 : decode cX2_copyFrom 42 = .ok (.iaload, 1) := by decide +kernel
theorem dX2_copyFrom_43 : decode cX2_copyFrom 43 = .ok (.iastore, 1) := by decide +kernel
theorem dX2_copyFrom_44 : decode cX2_copyFrom 44 = .ok (.aload_n 0, 1) := by decide +kernel
theorem dX2_copyFrom_45 : decode cX2_copyFrom 45 = .ok (.getfield 15, 3) := by decide +kernel
theorem dX2_copyFrom_48 : decode cX2_copyFrom 48 = .ok (.iload_n 2, 1) := by decide +kernel
theorem dX2_copyFrom_49 : decode cX2_copyFrom 49 = .ok (.aload_n 1, 1) := by decide +kernel
theorem dX2_copyFrom_50 : decode cX2_copyFrom 50 = .ok (.getfield 15, 3) := by decide +kernel
theorem dX2_copyFrom_53 : decode cX2_copyFrom 53 = .ok (.iload_n 2, 1) := by decide +kernel
theorem dX2_copyFrom_54 : decode cX2_copyFrom 54 = .ok (.iaload, 1) := by decide +kernel
theorem dX2_copyFrom_55 : decode cX2_copyFrom 55 = .ok (.iastore, 1) := by decide +kernel
theorem dX2_copyFrom_56 : decode cX2_copyFrom 56 = .ok (.aload_n 0, 1) := by decide +kernel
theorem dX2_copyFrom_57 : decode cX2_copyFrom 57 = .ok (.getfield 18, 3) := by decide +kernel
theorem dX2_copyFrom_60 : decode cX2_copyFrom 60 = .ok (.iload_n 2, 1) := by decide +kernel
theorem dX2_copyFrom_61 : decode cX2_copyFrom 61 = .ok (.aload_n 1, 1) := by decide +kernel
theorem dX2_copyFrom_62 : decode cX2_copyFrom 62 = .ok (.getfield 18, 3) := by decide +kernel
theorem dX2_copyFrom_65 : decode cX2_copyFrom 65 = .ok (.iload_n 2, 1) := by decide +kernel
theorem dX2_copyFrom_66 : decode cX2_copyFrom 66 = .ok (.iaload, 1) := by decide +kernel
theorem dX2_copyFrom_67 : decode cX2_copyFrom 67 = .ok (.iastore, 1) := by decide +kernel
theorem dX2_copyFrom_68 : decode cX2_copyFrom 68 = .ok (.aload_n 0, 1) := by decide +kernel
theorem dX2_copyFrom_69 : decode cX2_copyFrom 69 = .ok (.getfield 21, 3) := by decide +kernel
theorem dX2_copyFrom_72 : decode cX2_copyFrom 72 = .ok (.iload_n 2, 1) := by decide +kernel
theorem dX2_copyFrom_73 : decode cX2_copyFrom 73 = .ok (.aload_n 1, 1) := by decide +kernel
theorem dX2_copyFrom_74 : decode cX2_copyFrom 74 = .ok (.getfield 21, 3) := by decide +kernel
theorem dX2_copyFrom_77 : decode cX2_copyFrom 77 = .ok (.iload_n 2, 1) := by decide +kernel
theorem dX2_copyFrom_78 : decode cX2_copyFrom 78 = .ok (.iaload, 1) := by decide +kernel
theorem dX2_copyFrom_79 : decode cX2_copyFrom 79 = .ok (.iastore, 1) := by decide +kernel
theorem dX2_copyFrom_80 : decode cX2_copyFrom 80 = .ok (.aload_n 0, 1) := by decide +kernel
theorem dX2_copyFrom_81 : decode cX2_copyFrom 81 = .ok (.getfield 24, 3) := by decide +kernel
theorem dX2_copyFrom_84 : decode cX2_copyFrom 84 = .ok (.iload_n 2, 1) := by decide +kernel
theorem dX2_copyFrom_85 : decode cX2_copyFrom 85 = .ok (.aload_n 1, 1) := by decide +kernel
theorem dX2_copyFrom_86 : decode cX2_copyFrom 86 = .ok (.getfield 24, 3) := by decide +kernel
theorem dX2_copyFrom_89 : decode cX2_copyFrom 89 = .ok (.iload_n 2, 1) := by decide +kernel
theorem dX2_copyFrom_90 : decode cX2_copyFrom 90 = .ok (.iaload, 1) := by decide +kernel
theorem dX2_copyFrom_91 : decode cX2_copyFrom 91 = .ok (.iastore, 1) := by decide +kernel
theorem dX2_copyFrom_92 : decode cX2_copyFrom 92 = .ok (.iinc 2 1, 3) := by decide +kernel
theorem dX2_copyFrom_95 : decode cX2_copyFrom 95 = .ok (.goto (-69), 3) := by decide +kernel
theorem dX2_copyFrom_98 : decode cX2_copyFrom 98 = .ok (.return_, 1) := by decide +kernel
theorem dX2_gamesOfRound_0 : decode cX2_gamesOfRound 0 = .ok (.aload_n 0, 1) := by decide +kernel
theorem dX2_gamesOfRound_1 : decode cX2_gamesOfRound 1 = .ok (.getfield 27, 3) := by decide +kernel
theorem dX2_gamesOfRound_4 : decode cX2_gamesOfRound 4 = .ok (.aload_n 0, 1) := by decide +kernel
theorem dX2_gamesOfRound_5 : decode cX2_gamesOfRound 5 = .ok (.getfield 27, 3) := by decide +kernel
theorem dX2_gamesOfRound_8 : decode cX2_gamesOfRound 8 = .ok (.iconst 1, 1) := by decide +kernel
theorem dX2_gamesOfRound_9 : decode cX2_gamesOfRound 9 = .ok (.isub, 1) := by decide +kernel
theorem dX2_gamesOfRound_10 : decode cX2_gamesOfRound 10 = .ok (.imul, 1) := by decide +kernel
theorem dX2_gamesOfRound_11 : decode cX2_gamesOfRound 11 = .ok (.iconst 2, 1) := by decide +kernel
theorem dX2_gamesOfRound_12 : decode cX2_gamesOfRound 12 = .ok (.idiv, 1) := by decide +kernel
theorem dX2_gamesOfRound_13 : decode cX2_gamesOfRound 13 = .ok (.ireturn, 1) := by decide +kernel
theorem dX2_allBalls_0 : decode cX2_allBalls 0 = .ok (.iconst 0, 1) := by decide +kernel
theorem dX2_allBalls_1 : decode cX2_allBalls 1 = .ok (.istore_n 1, 1) := by decide +kernel
theorem dX2_allBalls_2 : decode cX2_allBalls 2 = .ok (.iconst 0, 1) := by decide +kernel
theorem dX2_allBalls_3 : decode cX2_allBalls 3 = .ok (.istore_n 2, 1) := by decide +kernel
theorem dX2_allBalls_4 : decode cX2_allBalls 4 = .ok (.iload_n 2, 1) := by decide +kernel
theorem dX2_allBalls_5 : decode cX2_allBalls 5 = .ok (.aload_n 0, 1) := by decide +kernel
theorem dX2_allBalls_6 : decode cX2_allBalls 6 = .ok (.getfield 27, 3) := by decide +kernel
theorem dX2_allBalls_9 : decode cX2_allBalls 9 = .ok (.if_icmp .ge 18, 3) := by decide +kernel
theorem dX2_allBalls_12 : decode cX2_allBalls 12 = .ok (.iload_n 1, 1) := by decide +kernel
theorem dX2_allBalls_13 : decode cX2_allBalls 13 = .ok (.aload_n 0, 1) := by decide +kernel
theorem dX2_allBalls_14 : decode cX2_allBalls 14 = .ok (.getfield 21, 3) := by decide +kernel
theorem dX2_allBalls_17 : decode cX2_allBalls 17 = .ok (.iload_n 2, 1) := by decide +kernel
theorem dX2_allBalls_18 : decode cX2_allBalls 18 = .ok (.iaload, 1) := by decide +kernel
theorem dX2_allBalls_19 : decode cX2_allBalls 19 = .ok (.iadd, 1) := by decide +kernel
theorem dX2_allBalls_20 : decode cX2_allBalls 20 = .ok (.istore_n 1, 1) := by decide +kernel
theorem dX2_allBalls_21 : decode cX2_allBalls 21 = .ok (.iinc 2 1, 3) := by decide +kernel
theorem dX2_allBalls_24 : decode cX2_allBalls 24 = .ok (.goto (-20), 3) := by decide +kernel
theorem dX2_allBalls_27 : decode cX2_allBalls 27 = .ok (.iload_n 1, 1) := by decide +kernel
theorem dX2_allBalls_28 : decode cX2_allBalls 28 = .ok (.ireturn, 1) := by decide +kernel
theorem dX2_allChoices_0 : decode cX2_allChoices 0 = .ok (.iconst 0, 1) := by decide +kernel
theorem dX2_allChoices_1 : decode cX2_allChoices 1 = .ok (.istore_n 1, 1) := by decide +kernel
theorem dX2_allChoices_2 : decode cX2_allChoices 2 = .ok (.iconst 0, 1) := by decide +kernel
theorem dX2_allChoices_3 : decode cX2_allChoices 3 = .ok (.istore_n 2, 1) := by decide +kernel
theorem dX2_allChoices_4 : decode cX2_allChoices 4 = .ok (.iload_n 2, 1) := by decide +kernel
theorem dX2_allChoices_5 : decode cX2_allChoices 5 = .ok (.aload_n 0, 1) := by decide +kernel
theorem dX2_allChoices_6 : decode cX2_allChoices 6 = .ok (.getfield 27, 3) := by decide +kernel
theorem dX2_allChoices_9 : decode cX2_allChoices 9 = .ok (.if_icmp .ge 18, 3) := by decide +kernel
theorem dX2_allChoices_12 : decode cX2_allChoices 12 = .ok (.iload_n 1, 1) := by decide +kernel
theorem dX2_allChoices_13 : decode cX2_allChoices 13 = .ok (.aload_n 0, 1) := by decide +kernel
theorem dX2_allChoices_14 : decode cX2_allChoices 14 = .ok (.getfield 18, 3) := by decide +kernel
theorem dX2_allChoices_17 : decode cX2_allChoices 17 = .ok (.iload_n 2, 1) := by decide +kernel
theorem dX2_allChoices_18 : decode cX2_allChoices 18 = .ok (.iaload, 1) := by decide +kernel
theorem dX2_allChoices_19 : decode cX2_allChoices 19 = .ok (.iadd, 1) := by decide +kernel
theorem dX2_allChoices_20 : decode cX2_allChoices 20 = .ok (.istore_n 1, 1) := by decide +kernel
theorem dX2_allChoices_21 : decode cX2_allChoices 21 = .ok (.iinc 2 1, 3) := by decide +kernel
theorem dX2_allChoices_24 : decode cX2_allChoices 24 = .ok (.goto (-20), 3) := by decide +kernel
theorem dX2_allChoices_27 : decode cX2_allChoices 27 = .ok (.iload_n 1, 1) := by decide +kernel
theorem dX2_allChoices_28 : decode cX2_allChoices 28 = .ok (.ireturn, 1) := by decide +kernel
theorem dX2_wheelHasTwice_0 : decode cX2_wheelHasTwice 0 = .ok (.iconst 0, 1) := by decide +kernel
theorem dX2_wheelHasTwice_1 : decode cX2_wheelHasTwice 1 = .ok (.istore_n 1, 1) := by decide +kernel
theorem dX2_wheelHasTwice_2 : decode cX2_wheelHasTwice 2 = .ok (.iconst 0, 1) := by decide +kernel
theorem dX2_wheelHasTwice_3 : decode cX2_wheelHasTwice 3 = .ok (.istore_n 2, 1) := by decide +kernel
theorem dX2_wheelHasTwice_4 : decode cX2_wheelHasTwice 4 = .ok (.iload_n 2, 1) := by decide +kernel
theorem dX2_wheelHasTwice_5 : decode cX2_wheelHasTwice 5 = .ok (.aload_n 0, 1) := by decide +kernel
theorem dX2_wheelHasTwice_6 : decode cX2_wheelHasTwice 6 = .ok (.getfield 27, 3) := by decide +kernel
theorem dX2_wheelHasTwice_9 : decode cX2_wheelHasTwice 9 = .ok (.if_icmp .ge 20, 3) := by decide +kernel
theorem dX2_wheelHasTwice_12 : decode cX2_wheelHasTwice 12 = .ok (.iload_n 1, 1) := by decide +kernel
theorem dX2_wheelHasTwice_13 : decode cX2_wheelHasTwice 13 = .ok (.iconst 1, 1) := by decide +kernel
theorem dX2_wheelHasTwice_14 : decode cX2_wheelHasTwice 14 = .ok (.aload_n 0, 1) := by decide +kernel
theorem dX2_wheelHasTwice_15 : decode cX2_wheelHasTwice 15 = .ok (.getfield 24, 3) := by decide +kernel
theorem dX2_wheelHasTwice_18 : decode cX2_wheelHasTwice 18 = .ok (.iload_n 2, 1) := by decide +kernel
theorem dX2_wheelHasTwice_19 : decode cX2_wheelHasTwice 19 = .ok (.iaload, 1) := by decide +kernel
theorem dX2_wheelHasTwice_20 : decode cX2_wheelHasTwice 20 = .ok (.ishl, 1) := by decide +kernel
theorem dX2_wheelHasTwice_21 : decode cX2_wheelHasTwice 21 = .ok (.ior, 1) := by decide +kernel
theorem dX2_wheelHasTwice_22 : decode cX2_wheelHasTwice 22 = .ok (.istore_n 1, 1) := by decide +kernel
theorem dX2_wheelHasTwice_23 : decode cX2_wheelHasTwice 23 = .ok (.iinc 2 1, 3) := by decide +kernel
theorem dX2_wheelHasTwice_26 : decode cX2_wheelHasTwice 26 = .ok (.goto (-22), 3) := by decide +kernel
theorem dX2_wheelHasTwice_29 : decode cX2_wheelHasTwice 29 = .ok (.iload_n 1, 1) := by decide +kernel
theorem dX2_wheelHasTwice_30 : decode cX2_wheelHasTwice 30 = .ok (.invokestatic 37, 3) := by decide +kernel
theorem dX2_wheelHasTwice_33 : decode cX2_wheelHasTwice 33 = .ok (.aload_n 0, 1) := by decide +kernel
theorem dX2_wheelHasTwice_34 : decode cX2_wheelHasTwice 34 = .ok (.getfield 27, 3) := by decide +kernel
theorem dX2_wheelHasTwice_37 : decode cX2_wheelHasTwice 37 = .ok (.if_icmp .ge 7, 3) := by decide +kernel
theorem dX2_wheelHasTwice_40 : decode cX2_wheelHasTwice 40 = .ok (.iconst 1, 1) := by decide +kernel
theorem dX2_wheelHasTwice_41 : decode cX2_wheelHasTwice 41 = .ok (.goto 4, 3) := by decide +kernel
theorem dX2_wheelHasTwice_44 : decode cX2_wheelHasTwice 44 = .ok (.iconst 0, 1) := by decide +kernel
theorem dX2_wheelHasTwice_45 : decode cX2_wheelHasTwice 45 = .ok (.ireturn, 1) := by decide +kernel
theorem dX2_payUnit_0 : decode cX2_payUnit 0 = .ok (.aload_n 0, 1) := by decide +kernel
theorem dX2_payUnit_1 : decode cX2_payUnit 1 = .ok (.getfield 31, 3) := by decide +kernel
theorem dX2_payUnit_4 : decode cX2_payUnit 4 = .ok (.lookupswitch 42 #[(1, 28), (4, 37)], 28) := by decide +kernel
theorem dX2_payUnit_32 : decode cX2_payUnit 32 = .ok (.iconst 1, 1) := by decide +kernel
theorem dX2_payUnit_33 : decode cX2_payUnit 33 = .ok (.aload_n 0, 1) := by decide +kernel
theorem dX2_payUnit_34 : decode cX2_payUnit 34 = .ok (.invokevirtual 43, 3) := by decide +kernel
theorem dX2_payUnit_37 : decode cX2_payUnit 37 = .ok (.invokestatic 47, 3) := by decide +kernel
theorem dX2_payUnit_40 : decode cX2_payUnit 40 = .ok (.ireturn, 1) := by decide +kernel
theorem dX2_payUnit_41 : decode cX2_payUnit 41 = .ok (.aload_n 0, 1) := by decide +kernel
theorem dX2_payUnit_42 : decode cX2_payUnit 42 = .ok (.getfield 27, 3) := by decide +kernel
theorem dX2_payUnit_45 : decode cX2_payUnit 45 = .ok (.ireturn, 1) := by decide +kernel
theorem dX2_payUnit_46 : decode cX2_payUnit 46 = .ok (.iconst 1, 1) := by decide +kernel
theorem dX2_payUnit_47 : decode cX2_payUnit 47 = .ok (.ireturn, 1) := by decide +kernel
theorem dX3_init_0 : decode cX3_init 0 = .ok (.aload_n 0, 1) := by decide +kernel
theorem dX3_init_1 : decode cX3_init 1 = .ok (.invokespecial 3, 3) := by decide +kernel
theorem dX3_init_4 : decode cX3_init 4 = .ok (.aload_n 0, 1) := by decide +kernel
theorem dX3_init_5 : decode cX3_init 5 = .ok (.bipush 40, 2) := by decide +kernel
theorem dX3_init_7 : decode cX3_init 7 = .ok (.newarray .int, 2) := by decide +kernel
theorem dX3_init_9 : decode cX3_init 9 = .ok (.putfield 9, 3) := by decide +kernel
theorem dX3_init_12 : decode cX3_init 12 = .ok (.return_, 1) := by decide +kernel
theorem dX3_renew_0 : decode cX3_renew 0 = .ok (.aload_n 0, 1) := by decide +kernel
theorem dX3_renew_1 : decode cX3_renew 1 = .ok (.iconst 1, 1) := by decide +kernel
theorem dX3_renew_2 : decode cX3_renew 2 = .ok (.putfield 15, 3) := by decide +kernel
theorem dX3_renew_5 : decode cX3_renew 5 = .ok (.aload_n 0, 1) := by decide +kernel
theorem dX3_renew_6 : decode cX3_renew 6 = .ok (.iload_n 1, 1) := by decide +kernel
theorem dX3_renew_7 : decode cX3_renew 7 = .ok (.putfield 19, 3) := by decide +kernel
theorem dX3_renew_10 : decode cX3_renew 10 = .ok (.aload_n 0, 1) := by decide +kernel
theorem dX3_renew_11 : decode cX3_renew 11 = .ok (.iload_n 2, 1) := by decide +kernel
theorem dX3_renew_12 : decode cX3_renew 12 = .ok (.putfield 23, 3) := by decide +kernel
theorem dX3_renew_15 : decode cX3_renew 15 = .ok (.iconst 0, 1) := by decide +kernel
theorem dX3_renew_16 : decode cX3_renew 16 = .ok (.istore_n 3, 1) := by decide +kernel
theorem dX3_renew_17 : decode cX3_renew 17 = .ok (.iload_n 3, 1) := by decide +kernel
theorem dX3_renew_18 : decode cX3_renew 18 = .ok (.bipush 40, 2) := by decide +kernel
theorem dX3_renew_20 : decode cX3_renew 20 = .ok (.if_icmp .ge 16, 3) := by decide +kernel
theorem dX3_renew_23 : decode cX3_renew 23 = .ok (.aload_n 0, 1) := by decide +kernel
theorem dX3_renew_24 : decode cX3_renew 24 = .ok (.getfield 9, 3) := by decide +kernel
theorem dX3_renew_27 : decode cX3_renew 27 = .ok (.iload_n 3, 1) := by decide +kernel
theorem dX3_renew_28 : decode cX3_renew 28 = .ok (.iconst 0, 1) := by decide +kernel
theorem dX3_renew_29 : decode cX3_renew 29 = .ok (.iastore, 1) := by decide +kernel
theorem dX3_renew_30 : decode cX3_renew 30 = .ok (.iinc 3 1, 3) := by decide +kernel
theorem dX3_renew_33 : decode cX3_renew 33 = .ok (.goto (-16), 3) := by decide +kernel
theorem dX3_renew_36 : decode cX3_renew 36 = .ok (.return_, 1) := by decide +kernel
theorem dX3_has_0 : decode cX3_has 0 = .ok (.iload_n 1, 1) := by decide +kernel
theorem dX3_has_1 : decode cX3_has 1 = .ok (.ifCond .lt 15, 3) := by decide +kernel
theorem dX3_has_4 : decode cX3_has 4 = .ok (.iload_n 1, 1) := by decide +kernel
theorem dX3_has_5 : decode cX3_has 5 = .ok (.aload_n 0, 1) := by decide +kernel
theorem dX3_has_6 : decode cX3_has 6 = .ok (.getfield 23, 3) := by decide +kernel
theorem dX3_has_9 : decode cX3_has 9 = .ok (.if_icmp .ge 7, 3) := by decide +kernel
theorem dX3_has_12 : decode cX3_has 12 = .ok (.iconst 1, 1) := by decide +kernel
theorem dX3_has_13 : decode cX3_has 13 = .ok (.goto 4, 3) := by decide +kernel
theorem dX3_has_16 : decode cX3_has 16 = .ok (.iconst 0, 1) := by decide +kernel
theorem dX3_has_17 : decode cX3_has 17 = .ok (.ireturn, 1) := by decide +kernel
theorem dX3_put_0 : decode cX3_put 0 = .ok (.aload_n 0, 1) := by decide +kernel
theorem dX3_put_1 : decode cX3_put 1 = .ok (.getfield 19, 3) := by decide +kernel
theorem dX3_put_4 : decode cX3_put 4 = .ok (.lookupswitch 50 #[(0, 28), (1, 39)], 28) := by decide +kernel
theorem dX3_put_32 : decode cX3_put 32 = .ok (.aload_n 0, 1) := by decide +kernel
theorem dX3_put_33 : decode cX3_put 33 = .ok (.getfield 9, 3) := by decide +kernel
theorem dX3_put_36 : decode cX3_put 36 = .ok (.iload_n 1, 1) := by decide +kernel
theorem dX3_put_37 : decode cX3_put 37 = .ok (.iload_n 2, 1) := by decide +kernel
theorem dX3_put_38 : decode cX3_put 38 = .ok (.i2b, 1) := by decide +kernel
theorem dX3_put_39 : decode cX3_put 39 = .ok (.iastore, 1) := by decide +kernel
theorem dX3_put_40 : decode cX3_put 40 = .ok (.goto 21, 3) := by decide +kernel
theorem dX3_put_43 : decode cX3_put 43 = .ok (.aload_n 0, 1) := by decide +kernel
theorem dX3_put_44 : decode cX3_put 44 = .ok (.getfield 9, 3) := by decide +kernel
theorem dX3_put_47 : decode cX3_put 47 = .ok (.iload_n 1, 1) := by decide +kernel
theorem dX3_put_48 : decode cX3_put 48 = .ok (.iload_n 2, 1) := by decide +kernel
theorem dX3_put_49 : decode cX3_put 49 = .ok (.i2s, 1) := by decide +kernel
theorem dX3_put_50 : decode cX3_put 50 = .ok (.iastore, 1) := by decide +kernel
theorem dX3_put_51 : decode cX3_put 51 = .ok (.goto 10, 3) := by decide +kernel
theorem dX3_put_54 : decode cX3_put 54 = .ok (.aload_n 0, 1) := by decide +kernel
theorem dX3_put_55 : decode cX3_put 55 = .ok (.getfield 9, 3) := by decide +kernel
theorem dX3_put_58 : decode cX3_put 58 = .ok (.iload_n 1, 1) := by decide +kernel
theorem dX3_put_59 : decode cX3_put 59 = .ok (.iload_n 2, 1) := by decide +kernel
theorem dX3_put_60 : decode cX3_put 60 = .ok (.iastore, 1) := by decide +kernel
theorem dX3_put_61 : decode cX3_put 61 = .ok (.return_, 1) := by decide +kernel
theorem dX3_readable_0 : decode cX3_readable 0 = .ok (.aload_n 0, 1) := by decide +kernel
theorem dX3_readable_1 : decode cX3_readable 1 = .ok (.getfield 15, 3) := by decide +kernel
theorem dX3_readable_4 : decode cX3_readable 4 = .ok (.ifCond .eq 19, 3) := by decide +kernel
theorem dX3_readable_7 : decode cX3_readable 7 = .ok (.iload_n 1, 1) := by decide +kernel
theorem dX3_readable_8 : decode cX3_readable 8 = .ok (.aload_n 0, 1) := by decide +kernel
theorem dX3_readable_9 : decode cX3_readable 9 = .ok (.getfield 19, 3) := by decide +kernel
theorem dX3_readable_12 : decode cX3_readable 12 = .ok (.if_icmp .ne 11, 3) := by decide +kernel
theorem dX3_readable_15 : decode cX3_readable 15 = .ok (.aload_n 0, 1) := by decide +kernel
theorem dX3_readable_16 : decode cX3_readable 16 = .ok (.iload_n 2, 1) := by decide +kernel
theorem dX3_readable_17 : decode cX3_readable 17 = .ok (.invokevirtual 26, 3) := by decide +kernel
theorem dX3_readable_20 : decode cX3_readable 20 = .ok (.ifCond .ne 5, 3) := by decide +kernel
theorem dX3_readable_23 : decode cX3_readable 23 = .ok (.iconst 0, 1) := by decide +kernel
theorem dX3_readable_24 : decode cX3_readable 24 = .ok (.ireturn, 1) := by decide +kernel
theorem dX3_readable_25 : decode cX3_readable 25 = .ok (.iload_n 3, 1) := by decide +kernel
theorem dX3_readable_26 : decode cX3_readable 26 = .ok (.aload_n 0, 1) := by decide +kernel
theorem dX3_readable_27 : decode cX3_readable 27 = .ok (.getfield 23, 3) := by decide +kernel
theorem dX3_readable_30 : decode cX3_readable 30 = .ok (.iload_n 2, 1) := by decide +kernel
theorem dX3_readable_31 : decode cX3_readable 31 = .ok (.isub, 1) := by decide +kernel
theorem dX3_readable_32 : decode cX3_readable 32 = .ok (.invokestatic 30, 3) := by decide +kernel
theorem dX3_readable_35 : decode cX3_readable 35 = .ok (.ireturn, 1) := by decide +kernel
theorem dX3_machineFault_0 : decode cX3_machineFault 0 = .ok (.iload_n 2, 1) := by decide +kernel
theorem dX3_machineFault_1 : decode cX3_machineFault 1 = .ok (.iload_n 3, 1) := by decide +kernel
theorem dX3_machineFault_2 : decode cX3_machineFault 2 = .ok (.if_icmp .lt 5, 3) := by decide +kernel
theorem dX3_machineFault_5 : decode cX3_machineFault 5 = .ok (.iconst 0, 1) := by decide +kernel
theorem dX3_machineFault_6 : decode cX3_machineFault 6 = .ok (.ireturn, 1) := by decide +kernel
theorem dX3_machineFault_7 : decode cX3_machineFault 7 = .ok (.aload_n 0, 1) := by decide +kernel
theorem dX3_machineFault_8 : decode cX3_machineFault 8 = .ok (.getfield 15, 3) := by decide +kernel
theorem dX3_machineFault_11 : decode cX3_machineFault 11 = .ok (.ifCond .ne 5, 3) := by decide +kernel
theorem dX3_machineFault_14 : decode cX3_machineFault 14 = .ok (.iconst 1, 1) := by decide +kernel
theorem dX3_machineFault_15 : decode cX3_machineFault 15 = .ok (.ireturn, 1) := by decide +kernel
theorem dX3_machineFault_16 : decode cX3_machineFault 16 = .ok (.iload_n 1, 1) := by decide +kernel
theorem dX3_machineFault_17 : decode cX3_machineFault 17 = .ok (.aload_n 0, 1) := by decide +kernel
theorem dX3_machineFault_18 : decode cX3_machineFault 18 = .ok (.getfield 19, 3) := by decide +kernel
theorem dX3_machineFault_21 : decode cX3_machineFault 21 = .ok (.if_icmp .eq 7, 3) := by decide +kernel
theorem dX3_machineFault_24 : decode cX3_machineFault 24 = .ok (.iconst 3, 1) := by decide +kernel
theorem dX3_machineFault_25 : decode cX3_machineFault 25 = .ok (.goto 4, 3) := by decide +kernel
theorem dX3_machineFault_28 : decode cX3_machineFault 28 = .ok (.iconst 2, 1) := by decide +kernel
theorem dX3_machineFault_29 : decode cX3_machineFault 29 = .ok (.ireturn, 1) := by decide +kernel
theorem dX4_init_0 : decode cX4_init 0 = .ok (.aload_n 0, 1) := by decide +kernel
theorem dX4_init_1 : decode cX4_init 1 = .ok (.invokespecial 3, 3) := by decide +kernel
theorem dX4_init_4 : decode cX4_init 4 = .ok (.aload_n 0, 1) := by decide +kernel
theorem dX4_init_5 : decode cX4_init 5 = .ok (.bipush 6, 2) := by decide +kernel
theorem dX4_init_7 : decode cX4_init 7 = .ok (.newarray .int, 2) := by decide +kernel
theorem dX4_init_9 : decode cX4_init 9 = .ok (.putfield 9, 3) := by decide +kernel
theorem dX4_init_12 : decode cX4_init 12 = .ok (.aload_n 0, 1) := by decide +kernel
theorem dX4_init_13 : decode cX4_init 13 = .ok (.bipush 6, 2) := by decide +kernel
theorem dX4_init_15 : decode cX4_init 15 = .ok (.newarray .int, 2) := by decide +kernel
theorem dX4_init_17 : decode cX4_init 17 = .ok (.putfield 15, 3) := by decide +kernel
theorem dX4_init_20 : decode cX4_init 20 = .ok (.aload_n 0, 1) := by decide +kernel
theorem dX4_init_21 : decode cX4_init 21 = .ok (.bipush 6, 2) := by decide +kernel
theorem dX4_init_23 : decode cX4_init 23 = .ok (.newarray .int, 2) := by decide +kernel
theorem dX4_init_25 : decode cX4_init 25 = .ok (.putfield 18, 3) := by decide +kernel
theorem dX4_init_28 : decode cX4_init 28 = .ok (.aload_n 0, 1) := by decide +kernel
theorem dX4_init_29 : decode cX4_init 29 = .ok (.bipush 6, 2) := by decide +kernel
theorem dX4_init_31 : decode cX4_init 31 = .ok (.newarray .int, 2) := by decide +kernel
theorem dX4_init_33 : decode cX4_init 33 = .ok (.putfield 21, 3) := by decide +kernel
theorem dX4_init_36 : decode cX4_init 36 = .ok (.aload_n 0, 1) := by decide +kernel
theorem dX4_init_37 : decode cX4_init 37 = .ok (.bipush 6, 2) := by decide +kernel
theorem dX4_init_39 : decode cX4_init 39 = .ok (.newarray .int, 2) := by decide +kernel
theorem dX4_init_41 : decode cX4_init 41 = .ok (.putfield 24, 3) := by decide +kernel
theorem dX4_init_44 : decode cX4_init 44 = .ok (.aload_n 0, 1) := by decide +kernel
theorem dX4_init_45 : decode cX4_init 45 = .ok (.bipush 6, 2) := by decide +kernel
theorem dX4_init_47 : decode cX4_init 47 = .ok (.newarray .int, 2) := by decide +kernel
theorem dX4_init_49 : decode cX4_init 49 = .ok (.putfield 27, 3) := by decide +kernel
theorem dX4_init_52 : decode cX4_init 52 = .ok (.aload_n 0, 1) := by decide +kernel
theorem dX4_init_53 : decode cX4_init 53 = .ok (.bipush 6, 2) := by decide +kernel
theorem dX4_init_55 : decode cX4_init 55 = .ok (.newarray .int, 2) := by decide +kernel
theorem dX4_init_57 : decode cX4_init 57 = .ok (.putfield 30, 3) := by decide +kernel
theorem dX4_init_60 : decode cX4_init 60 = .ok (.return_, 1) := by decide +kernel
theorem dX4_settle_0 : decode cX4_settle 0 = .ok (.aload_n 0, 1) := by decide +kernel
theorem dX4_settle_1 : decode cX4_settle 1 = .ok (.iload_n 2, 1) := by decide +kernel
theorem dX4_settle_2 : decode cX4_settle 2 = .ok (.putfield 33, 3) := by decide +kernel
theorem dX4_settle_5 : decode cX4_settle 5 = .ok (.iconst 0, 1) := by decide +kernel
theorem dX4_settle_6 : decode cX4_settle 6 = .ok (.istore_n 3, 1) := by decide +kernel
theorem dX4_settle_7 : decode cX4_settle 7 = .ok (.iload_n 3, 1) := by decide +kernel
theorem dX4_settle_8 : decode cX4_settle 8 = .ok (.aload_n 0, 1) := by decide +kernel
theorem dX4_settle_9 : decode cX4_settle 9 = .ok (.getfield 33, 3) := by decide +kernel
theorem dX4_settle_12 : decode cX4_settle 12 = .ok (.if_icmp .ge 16, 3) := by decide +kernel
theorem dX4_settle_15 : decode cX4_settle 15 = .ok (.aload_n 0, 1) := by decide +kernel
theorem dX4_settle_16 : decode cX4_settle 16 = .ok (.getfield 9, 3) := by decide +kernel
theorem dX4_settle_19 : decode cX4_settle 19 = .ok (.iload_n 3, 1) := by decide +kernel
theorem dX4_settle_20 : decode cX4_settle 20 = .ok (.iconst 0, 1) := by decide +kernel
theorem dX4_settle_21 : decode cX4_settle 21 = .ok (.iastore, 1) := by decide +kernel
theorem dX4_settle_22 : decode cX4_settle 22 = .ok (.iinc 3 1, 3) := by decide +kernel
theorem dX4_settle_25 : decode cX4_settle 25 = .ok (.goto (-18), 3) := by decide +kernel
theorem dX4_settle_28 : decode cX4_settle 28 = .ok (.iconst 0, 1) := by decide +kernel
theorem dX4_settle_29 : decode cX4_settle 29 = .ok (.istore_n 3, 1) := by decide +kernel
theorem dX4_settle_30 : decode cX4_settle 30 = .ok (.iload_n 3, 1) := by decide +kernel
theorem dX4_settle_31 : decode cX4_settle 31 = .ok (.aload_n 1, 1) := by decide +kernel
theorem dX4_settle_32 : decode cX4_settle 32 = .ok (.getfield 37, 3) := by decide +kernel
theorem dX4_settle_35 : decode cX4_settle 35 = .ok (.if_icmp .ge 33, 3) := by decide +kernel
theorem dX4_settle_38 : decode cX4_settle 38 = .ok (.aload_n 1, 1) := by decide +kernel
theorem dX4_settle_39 : decode cX4_settle 39 = .ok (.getfield 42, 3) := by decide +kernel
theorem dX4_settle_42 : decode cX4_settle 42 = .ok (.iload_n 3, 1) := by decide +kernel
theorem dX4_settle_43 : decode cX4_settle 43 = .ok (.iaload, 1) := by decide +kernel
theorem dX4_settle_44 : decode cX4_settle 44 = .ok (.iconst 2, 1) := by decide +kernel
theorem dX4_settle_45 : decode cX4_settle 45 = .ok (.if_icmp .eq 17, 3) := by decide +kernel
theorem dX4_settle_48 : decode cX4_settle 48 = .ok (.aload_n 0, 1) := by decide +kernel
theorem dX4_settle_49 : decode cX4_settle 49 = .ok (.getfield 9, 3) := by decide +kernel
theorem dX4_settle_52 : decode cX4_settle 52 = .ok (.aload_n 1, 1) := by decide +kernel
theorem dX4_settle_53 : decode cX4_settle 53 = .ok (.iload_n 3, 1) := by decide +kernel
theorem dX4_settle_54 : decode cX4_settle 54 = .ok (.invokevirtual 45, 3) := by decide +kernel
theorem dX4_settle_57 : decode cX4_settle 57 = .ok (.dup2, 1) := by decide +kernel
theorem dX4_settle_58 : decode cX4_settle 58 = .ok (.iaload, 1) := by decide +kernel
theorem dX4_settle_59 : decode cX4_settle 59 = .ok (.iconst 1, 1) := by decide +kernel
theorem dX4_settle_60 : decode cX4_settle 60 = .ok (.iadd, 1) := by decide +kernel
theorem dX4_settle_61 : decode cX4_settle 61 = .ok (.iastore, 1) := by decide +kernel
theorem dX4_settle_62 : decode cX4_settle 62 = .ok (.iinc 3 1, 3) := by decide +kernel
theorem dX4_settle_65 : decode cX4_settle 65 = .ok (.goto (-35), 3) := by decide +kernel
theorem dX4_settle_68 : decode cX4_settle 68 = .ok (.iconst 0, 1) := by decide +kernel
theorem dX4_settle_69 : decode cX4_settle 69 = .ok (.istore_n 3, 1) := by decide +kernel
theorem dX4_settle_70 : decode cX4_settle 70 = .ok (.iload_n 3, 1) := by decide +kernel
theorem dX4_settle_71 : decode cX4_settle 71 = .ok (.aload_n 0, 1) := by decide +kernel
theorem dX4_settle_72 : decode cX4_settle 72 = .ok (.getfield 33, 3) := by decide +kernel
theorem dX4_settle_75 : decode cX4_settle 75 = .ok (.if_icmp .ge 70, 3) := by decide +kernel
theorem dX4_settle_78 : decode cX4_settle 78 = .ok (.iload_n 3, 1) := by decide +kernel
theorem dX4_settle_79 : decode cX4_settle 79 = .ok (.istore 4, 2) := by decide +kernel
theorem dX4_settle_81 : decode cX4_settle 81 = .ok (.iload 4, 2) := by decide +kernel
theorem dX4_settle_83 : decode cX4_settle 83 = .ok (.ifCond .le 48, 3) := by decide +kernel
theorem dX4_settle_86 : decode cX4_settle 86 = .ok (.aload_n 0, 1) := by decide +kernel
theorem dX4_settle_87 : decode cX4_settle 87 = .ok (.getfield 9, 3) := by decide +kernel
theorem dX4_settle_90 : decode cX4_settle 90 = .ok (.aload_n 0, 1) := by decide +kernel
theorem dX4_settle_91 : decode cX4_settle 91 = .ok (.getfield 15, 3) := by decide +kernel
theorem dX4_settle_94 : decode cX4_settle 94 = .ok (.iload 4, 2) := by decide +kernel
theorem dX4_settle_96 : decode cX4_settle 96 = .ok (.iconst 1, 1) := by decide +kernel
theorem dX4_settle_97 : decode cX4_settle 97 = .ok (.isub, 1) := by decide +kernel
theorem dX4_settle_98 : decode cX4_settle 98 = .ok (.iaload, 1) := by decide +kernel
theorem dX4_settle_99 : decode cX4_settle 99 = .ok (.iaload, 1) := by decide +kernel
theorem dX4_settle_100 : decode cX4_settle 100 = .ok (.aload_n 0, 1) := by decide +kernel
theorem dX4_settle_101 : decode cX4_settle 101 = .ok (.getfield 9, 3) := by decide +kernel
theorem dX4_settle_104 : decode cX4_settle 104 = .ok (.iload_n 3, 1) := by decide +kernel
theorem dX4_settle_105 : decode cX4_settle 105 = .ok (.iaload, 1) := by decide +kernel
theorem dX4_settle_106 : decode cX4_settle 106 = .ok (.if_icmp .ge 25, 3) := by decide +kernel
theorem dX4_settle_109 : decode cX4_settle 109 = .ok (.aload_n 0, 1) := by decide +kernel
theorem dX4_settle_110 : decode cX4_settle 110 = .ok (.getfield 15, 3) := by decide +kernel
theorem dX4_settle_113 : decode cX4_settle 113 = .ok (.iload 4, 2) := by decide +kernel
theorem dX4_settle_115 : decode cX4_settle 115 = .ok (.aload_n 0, 1) := by decide +kernel
theorem dX4_settle_116 : decode cX4_settle 116 = .ok (.getfield 15, 3) := by decide +kernel
theorem dX4_settle_119 : decode cX4_settle 119 = .ok (.iload 4, 2) := by decide +kernel
theorem dX4_settle_121 : decode cX4_settle 121 = .ok (.iconst 1, 1) := by decide +kernel
theorem dX4_settle_122 : decode cX4_settle 122 = .ok (.isub, 1) := by decide +kernel
theorem dX4_settle_123 : decode cX4_settle 123 = .ok (.iaload, 1) := by decide +kernel
theorem dX4_settle_124 : decode cX4_settle 124 = .ok (.iastore, 1) := by decide +kernel
theorem dX4_settle_125 : decode cX4_settle 125 = .ok (.iinc 4 (-1), 3) := by decide +kernel
theorem dX4_settle_128 : decode cX4_settle 128 = .ok (.goto (-47), 3) := by decide +kernel
theorem dX4_settle_131 : decode cX4_settle 131 = .ok (.aload_n 0, 1) := by decide +kernel
theorem dX4_settle_132 : decode cX4_settle 132 = .ok (.getfield 15, 3) := by decide +kernel
theorem dX4_settle_135 : decode cX4_settle 135 = .ok (.iload 4, 2) := by decide +kernel
theorem dX4_settle_137 : decode cX4_settle 137 = .ok (.iload_n 3, 1) := by decide +kernel
theorem dX4_settle_138 : decode cX4_settle 138 = .ok (.iastore, 1) := by decide +kernel
theorem dX4_settle_139 : decode cX4_settle 139 = .ok (.iinc 3 1, 3) := by decide +kernel
theorem dX4_settle_142 : decode cX4_settle 142 = .ok (.goto (-72), 3) := by decide +kernel
theorem dX4_settle_145 : decode cX4_settle 145 = .ok (.iconst 0, 1) := by decide +kernel
theorem dX4_settle_146 : decode cX4_settle 146 = .ok (.istore_n 3, 1) := by decide +kernel
theorem dX4_settle_147 : decode cX4_settle 147 = .ok (.iload_n 3, 1) := by decide +kernel
theorem dX4_settle_148 : decode cX4_settle 148 = .ok (.aload_n 0, 1) := by decide +kernel
theorem dX4_settle_149 : decode cX4_settle 149 = .ok (.getfield 33, 3) := by decide +kernel
theorem dX4_settle_152 : decode cX4_settle 152 = .ok (.if_icmp .ge 21, 3) := by decide +kernel
theorem dX4_settle_155 : decode cX4_settle 155 = .ok (.aload_n 0, 1) := by decide +kernel
theorem dX4_settle_156 : decode cX4_settle 156 = .ok (.getfield 18, 3) := by decide +kernel
theorem dX4_settle_159 : decode cX4_settle 159 = .ok (.aload_n 0, 1) := by decide +kernel
theorem dX4_settle_160 : decode cX4_settle 160 = .ok (.getfield 15, 3) := by decide +kernel
theorem dX4_settle_163 : decode cX4_settle 163 = .ok (.iload_n 3, 1) := by decide +kernel
theorem dX4_settle_164 : decode cX4_settle 164 = .ok (.iaload, 1) := by decide +kernel
theorem dX4_settle_165 : decode cX4_settle 165 = .ok (.iload_n 3, 1) := by decide +kernel
theorem dX4_settle_166 : decode cX4_settle 166 = .ok (.iastore, 1) := by decide +kernel
theorem dX4_settle_167 : decode cX4_settle 167 = .ok (.iinc 3 1, 3) := by decide +kernel
theorem dX4_settle_170 : decode cX4_settle 170 = .ok (.goto (-23), 3) := by decide +kernel
theorem dX4_settle_173 : decode cX4_settle 173 = .ok (.return_, 1) := by decide +kernel
theorem dX4_fromLast_0 : decode cX4_fromLast 0 = .ok (.aload_n 0, 1) := by decide +kernel
theorem dX4_fromLast_1 : decode cX4_fromLast 1 = .ok (.getfield 15, 3) := by decide +kernel
theorem dX4_fromLast_4 : decode cX4_fromLast 4 = .ok (.aload_n 0, 1) := by decide +kernel
theorem dX4_fromLast_5 : decode cX4_fromLast 5 = .ok (.getfield 33, 3) := by decide +kernel
theorem dX4_fromLast_8 : decode cX4_fromLast 8 = .ok (.iconst 1, 1) := by decide +kernel
theorem dX4_fromLast_9 : decode cX4_fromLast 9 = .ok (.isub, 1) := by decide +kernel
theorem dX4_fromLast_10 : decode cX4_fromLast 10 = .ok (.iload_n 1, 1) := by decide +kernel
theorem dX4_fromLast_11 : decode cX4_fromLast 11 = .ok (.isub, 1) := by decide +kernel
theorem dX4_fromLast_12 : decode cX4_fromLast 12 = .ok (.iaload, 1) := by decide +kernel
theorem dX4_fromLast_13 : decode cX4_fromLast 13 = .ok (.ireturn, 1) := by decide +kernel
theorem dX4_ballsOf_0 : decode cX4_ballsOf 0 = .ok (.aload_n 1, 1) := by decide +kernel
theorem dX4_ballsOf_1 : decode cX4_ballsOf 1 = .ok (.getfield 49, 3) := by decide +kernel
theorem dX4_ballsOf_4 : decode cX4_ballsOf 4 = .ok (.aload_n 0, 1) := by decide +kernel
theorem dX4_ballsOf_5 : decode cX4_ballsOf 5 = .ok (.getfield 33, 3) := by decide +kernel
theorem dX4_ballsOf_8 : decode cX4_ballsOf 8 = .ok (.iconst 1, 1) := by decide +kernel
theorem dX4_ballsOf_9 : decode cX4_ballsOf 9 = .ok (.isub, 1) := by decide +kernel
theorem dX4_ballsOf_10 : decode cX4_ballsOf 10 = .ok (.aload_n 0, 1) := by decide +kernel
theorem dX4_ballsOf_11 : decode cX4_ballsOf 11 = .ok (.getfield 18, 3) := by decide +kernel
theorem dX4_ballsOf_14 : decode cX4_ballsOf 14 = .ok (.iload_n 2, 1) := by decide +kernel
theorem dX4_ballsOf_15 : decode cX4_ballsOf 15 = .ok (.iaload, 1) := by decide +kernel
theorem dX4_ballsOf_16 : decode cX4_ballsOf 16 = .ok (.isub, 1) := by decide +kernel
theorem dX4_ballsOf_17 : decode cX4_ballsOf 17 = .ok (.iaload, 1) := by decide +kernel
theorem dX4_ballsOf_18 : decode cX4_ballsOf 18 = .ok (.ireturn, 1) := by decide +kernel
theorem dX4_findOut_0 : decode cX4_findOut 0 = .ok (.iconst 0, 1) := by decide +kernel
theorem dX4_findOut_1 : decode cX4_findOut 1 = .ok (.istore_n 2, 1) := by decide +kernel
theorem dX4_findOut_2 : decode cX4_findOut 2 = .ok (.iload_n 2, 1) := by decide +kernel
theorem dX4_findOut_3 : decode cX4_findOut 3 = .ok (.aload_n 0, 1) := by decide +kernel
theorem dX4_findOut_4 : decode cX4_findOut 4 = .ok (.getfield 33, 3) := by decide +kernel
theorem dX4_findOut_7 : decode cX4_findOut 7 = .ok (.if_icmp .ge 38, 3) := by decide +kernel
theorem dX4_findOut_10 : decode cX4_findOut 10 = .ok (.aload_n 0, 1) := by decide +kernel
theorem dX4_findOut_11 : decode cX4_findOut 11 = .ok (.getfield 21, 3) := by decide +kernel
theorem dX4_findOut_14 : decode cX4_findOut 14 = .ok (.iload_n 2, 1) := by decide +kernel
theorem dX4_findOut_15 : decode cX4_findOut 15 = .ok (.bipush (-4), 2) := by decide +kernel
theorem dX4_findOut_17 : decode cX4_findOut 17 = .ok (.iastore, 1) := by decide +kernel
theorem dX4_findOut_18 : decode cX4_findOut 18 = .ok (.aload_n 0, 1) := by decide +kernel
theorem dX4_findOut_19 : decode cX4_findOut 19 = .ok (.getfield 24, 3) := by decide +kernel
theorem dX4_findOut_22 : decode cX4_findOut 22 = .ok (.iload_n 2, 1) := by decide +kernel
theorem dX4_findOut_23 : decode cX4_findOut 23 = .ok (.iconst (-1), 1) := by decide +kernel
theorem dX4_findOut_24 : decode cX4_findOut 24 = .ok (.iastore, 1) := by decide +kernel
theorem dX4_findOut_25 : decode cX4_findOut 25 = .ok (.aload_n 0, 1) := by decide +kernel
theorem dX4_findOut_26 : decode cX4_findOut 26 = .ok (.getfield 9, 3) := by decide +kernel
theorem dX4_findOut_29 : decode cX4_findOut 29 = .ok (.iload_n 2, 1) := by decide +kernel
theorem dX4_findOut_30 : decode cX4_findOut 30 = .ok (.iconst 0, 1) := by decide +kernel
theorem dX4_findOut_31 : decode cX4_findOut 31 = .ok (.iastore, 1) := by decide +kernel
theorem dX4_findOut_32 : decode cX4_findOut 32 = .ok (.aload_n 0, 1) := by decide +kernel
theorem dX4_findOut_33 : decode cX4_findOut 33 = .ok (.getfield 27, 3) := by decide +kernel
theorem dX4_findOut_36 : decode cX4_findOut 36 = .ok (.iload_n 2, 1) := by decide +kernel
theorem dX4_findOut_37 : decode cX4_findOut 37 = .ok (.iconst 0, 1) := by decide +kernel
theorem dX4_findOut_38 : decode cX4_findOut 38 = .ok (.iastore, 1) := by decide +kernel
theorem dX4_findOut_39 : decode cX4_findOut 39 = .ok (.iinc 2 1, 3) := by decide +kernel
theorem dX4_findOut_42 : decode cX4_findOut 42 = .ok (.goto (-40), 3) := by decide +kernel
theorem dX4_findOut_45 : decode cX4_findOut 45 = .ok (.iconst 0, 1) := by decide +kernel
theorem dX4_findOut_46 : decode cX4_findOut 46 = .ok (.istore_n 2, 1) := by decide +kernel
theorem dX4_findOut_47 : decode cX4_findOut 47 = .ok (.iload_n 2, 1) := by decide +kernel
theorem dX4_findOut_48 : decode cX4_findOut 48 = .ok (.aload_n 1, 1) := by decide +kernel
theorem dX4_findOut_49 : decode cX4_findOut 49 = .ok (.getfield 37, 3) := by decide +kernel
theorem dX4_findOut_52 : decode cX4_findOut 52 = .ok (.if_icmp .ge 39, 3) := by decide +kernel
theorem dX4_findOut_55 : decode cX4_findOut 55 = .ok (.aload_n 0, 1) := by decide +kernel
theorem dX4_findOut_56 : decode cX4_findOut 56 = .ok (.getfield 27, 3) := by decide +kernel
theorem dX4_findOut_59 : decode cX4_findOut 59 = .ok (.aload_n 1, 1) := by decide +kernel
theorem dX4_findOut_60 : decode cX4_findOut 60 = .ok (.getfield 54, 3) := by decide +kernel
theorem dX4_findOut_63 : decode cX4_findOut 63 = .ok (.iload_n 2, 1) := by decide +kernel
theorem dX4_findOut_64 : decode cX4_findOut 64 = .ok (.iaload, 1) := by decide +kernel
theorem dX4_findOut_65 : decode cX4_findOut 65 = .ok (.dup2, 1) := by decide +kernel
theorem dX4_findOut_66 : decode cX4_findOut 66 = .ok (.iaload, 1) := by decide +kernel
theorem dX4_findOut_67 : decode cX4_findOut 67 = .ok (.iconst 1, 1) := by decide +kernel
theorem dX4_findOut_68 : decode cX4_findOut 68 = .ok (.iadd, 1) := by decide +kernel
theorem dX4_findOut_69 : decode cX4_findOut 69 = .ok (.iastore, 1) := by decide +kernel
theorem dX4_findOut_70 : decode cX4_findOut 70 = .ok (.aload_n 0, 1) := by decide +kernel
theorem dX4_findOut_71 : decode cX4_findOut 71 = .ok (.getfield 27, 3) := by decide +kernel
theorem dX4_findOut_74 : decode cX4_findOut 74 = .ok (.aload_n 1, 1) := by decide +kernel
theorem dX4_findOut_75 : decode cX4_findOut 75 = .ok (.getfield 57, 3) := by decide +kernel
theorem dX4_findOut_78 : decode cX4_findOut 78 = .ok (.iload_n 2, 1) := by decide +kernel
theorem dX4_findOut_79 : decode cX4_findOut 79 = .ok (.iaload, 1) := by decide +kernel
theorem dX4_findOut_80 : decode cX4_findOut 80 = .ok (.dup2, 1) := by decide +kernel
theorem dX4_findOut_81 : decode cX4_findOut 81 = .ok (.iaload, 1) := by decide +kernel
theorem dX4_findOut_82 : decode cX4_findOut 82 = .ok (.iconst 1, 1) := by decide +kernel
theorem dX4_findOut_83 : decode cX4_findOut 83 = .ok (.iadd, 1) := by decide +kernel
theorem dX4_findOut_84 : decode cX4_findOut 84 = .ok (.iastore, 1) := by decide +kernel
theorem dX4_findOut_85 : decode cX4_findOut 85 = .ok (.iinc 2 1, 3) := by decide +kernel
theorem dX4_findOut_88 : decode cX4_findOut 88 = .ok (.goto (-41), 3) := by decide +kernel
theorem dX4_findOut_91 : decode cX4_findOut 91 = .ok (.iconst 0, 1) := by decide +kernel
theorem dX4_findOut_92 : decode cX4_findOut 92 = .ok (.istore_n 2, 1) := by decide +kernel
theorem dX4_findOut_93 : decode cX4_findOut 93 = .ok (.iconst 0, 1) := by decide +kernel
theorem dX4_findOut_94 : decode cX4_findOut 94 = .ok (.istore_n 3, 1) := by decide +kernel
theorem dX4_findOut_95 : decode cX4_findOut 95 = .ok (.iload_n 3, 1) := by decide +kernel
theorem dX4_findOut_96 : decode cX4_findOut 96 = .ok (.aload_n 1, 1) := by decide +kernel
theorem dX4_findOut_97 : decode cX4_findOut 97 = .ok (.getfield 37, 3) := by decide +kernel
theorem dX4_findOut_100 : decode cX4_findOut 100 = .ok (.if_icmp .ge 69, 3) := by decide +kernel
theorem dX4_findOut_103 : decode cX4_findOut 103 = .ok (.aload_n 1, 1) := by decide +kernel
theorem dX4_findOut_104 : decode cX4_findOut 104 = .ok (.getfield 42, 3) := by decide +kernel
theorem dX4_findOut_107 : decode cX4_findOut 107 = .ok (.iload_n 3, 1) := by decide +kernel
theorem dX4_findOut_108 : decode cX4_findOut 108 = .ok (.iaload, 1) := by decide +kernel
theorem dX4_findOut_109 : decode cX4_findOut 109 = .ok (.iconst 2, 1) := by decide +kernel
theorem dX4_findOut_110 : decode cX4_findOut 110 = .ok (.if_icmp .eq 53, 3) := by decide +kernel
theorem dX4_findOut_113 : decode cX4_findOut 113 = .ok (.aload_n 0, 1) := by decide +kernel
theorem dX4_findOut_114 : decode cX4_findOut 114 = .ok (.getfield 27, 3) := by decide +kernel
theorem dX4_findOut_117 : decode cX4_findOut 117 = .ok (.aload_n 1, 1) := by decide +kernel
theorem dX4_findOut_118 : decode cX4_findOut 118 = .ok (.getfield 54, 3) := by decide +kernel
theorem dX4_findOut_121 : decode cX4_findOut 121 = .ok (.iload_n 3, 1) := by decide +kernel
theorem dX4_findOut_122 : decode cX4_findOut 122 = .ok (.iaload, 1) := by decide +kernel
theorem dX4_findOut_123 : decode cX4_findOut 123 = .ok (.dup2, 1) := by decide +kernel
theorem dX4_findOut_124 : decode cX4_findOut 124 = .ok (.iaload, 1) := by decide +kernel
theorem dX4_findOut_125 : decode cX4_findOut 125 = .ok (.iconst 1, 1) := by decide +kernel
theorem dX4_findOut_126 : decode cX4_findOut 126 = .ok (.isub, 1) := by decide +kernel
theorem dX4_findOut_127 : decode cX4_findOut 127 = .ok (.iastore, 1) := by decide +kernel
theorem dX4_findOut_128 : decode cX4_findOut 128 = .ok (.aload_n 0, 1) := by decide +kernel
theorem dX4_findOut_129 : decode cX4_findOut 129 = .ok (.getfield 27, 3) := by decide +kernel
theorem dX4_findOut_132 : decode cX4_findOut 132 = .ok (.aload_n 1, 1) := by decide +kernel
theorem dX4_findOut_133 : decode cX4_findOut 133 = .ok (.getfield 57, 3) := by decide +kernel
theorem dX4_findOut_136 : decode cX4_findOut 136 = .ok (.iload_n 3, 1) := by decide +kernel
theorem dX4_findOut_137 : decode cX4_findOut 137 = .ok (.iaload, 1) := by decide +kernel
theorem dX4_findOut_138 : decode cX4_findOut 138 = .ok (.dup2, 1) := by decide +kernel
theorem dX4_findOut_139 : decode cX4_findOut 139 = .ok (.iaload, 1) := by decide +kernel
theorem dX4_findOut_140 : decode cX4_findOut 140 = .ok (.iconst 1, 1) := by decide +kernel
theorem dX4_findOut_141 : decode cX4_findOut 141 = .ok (.isub, 1) := by decide +kernel
theorem dX4_findOut_142 : decode cX4_findOut 142 = .ok (.iastore, 1) := by decide +kernel
theorem dX4_findOut_143 : decode cX4_findOut 143 = .ok (.iload_n 2, 1) := by decide +kernel
theorem dX4_findOut_144 : decode cX4_findOut 144 = .ok (.aload_n 0, 1) := by decide +kernel
theorem dX4_findOut_145 : decode cX4_findOut 145 = .ok (.aload_n 1, 1) := by decide +kernel
theorem dX4_findOut_146 : decode cX4_findOut 146 = .ok (.iload_n 3, 1) := by decide +kernel
theorem dX4_findOut_147 : decode cX4_findOut 147 = .ok (.invokevirtual 45, 3) := by decide +kernel
theorem dX4_findOut_150 : decode cX4_findOut 150 = .ok (.invokevirtual 60, 3) := by decide +kernel
theorem dX4_findOut_153 : decode cX4_findOut 153 = .ok (.invokestatic 63, 3) := by decide +kernel
theorem dX4_findOut_156 : decode cX4_findOut 156 = .ok (.istore_n 2, 1) := by decide +kernel
theorem dX4_findOut_157 : decode cX4_findOut 157 = .ok (.aload_n 0, 1) := by decide +kernel
theorem dX4_findOut_158 : decode cX4_findOut 158 = .ok (.iload_n 3, 1) := by decide +kernel
theorem dX4_findOut_159 : decode cX4_findOut 159 = .ok (.iload_n 2, 1) := by decide +kernel
theorem dX4_findOut_160 : decode cX4_findOut 160 = .ok (.invokevirtual 69, 3) := by decide +kernel
theorem dX4_findOut_163 : decode cX4_findOut 163 = .ok (.iinc 3 1, 3) := by decide +kernel
theorem dX4_findOut_166 : decode cX4_findOut 166 = .ok (.goto (-71), 3) := by decide +kernel
theorem dX4_findOut_169 : decode cX4_findOut 169 = .ok (.return_, 1) := by decide +kernel
theorem dX4_countWin_0 : decode cX4_countWin 0 = .ok (.aload_n 0, 1) := by decide +kernel
theorem dX4_countWin_1 : decode cX4_countWin 1 = .ok (.getfield 9, 3) := by decide +kernel
theorem dX4_countWin_4 : decode cX4_countWin 4 = .ok (.iload_n 1, 1) := by decide +kernel
theorem dX4_countWin_5 : decode cX4_countWin 5 = .ok (.dup2, 1) := by decide +kernel
theorem dX4_countWin_6 : decode cX4_countWin 6 = .ok (.iaload, 1) := by decide +kernel
theorem dX4_countWin_7 : decode cX4_countWin 7 = .ok (.iconst 1, 1) := by decide +kernel
theorem dX4_countWin_8 : decode cX4_countWin 8 = .ok (.iadd, 1) := by decide +kernel
theorem dX4_countWin_9 : decode cX4_countWin 9 = .ok (.iastore, 1) := by decide +kernel
theorem dX4_countWin_10 : decode cX4_countWin 10 = .ok (.aload_n 0, 1) := by decide +kernel
theorem dX4_countWin_11 : decode cX4_countWin 11 = .ok (.getfield 24, 3) := by decide +kernel
theorem dX4_countWin_14 : decode cX4_countWin 14 = .ok (.iload_n 1, 1) := by decide +kernel
theorem dX4_countWin_15 : decode cX4_countWin 15 = .ok (.iaload, 1) := by decide +kernel
theorem dX4_countWin_16 : decode cX4_countWin 16 = .ok (.iconst (-1), 1) := by decide +kernel
theorem dX4_countWin_17 : decode cX4_countWin 17 = .ok (.if_icmp .eq 13, 3) := by decide +kernel
theorem dX4_countWin_20 : decode cX4_countWin 20 = .ok (.aload_n 0, 1) := by decide +kernel
theorem dX4_countWin_21 : decode cX4_countWin 21 = .ok (.getfield 24, 3) := by decide +kernel
theorem dX4_countWin_24 : decode cX4_countWin 24 = .ok (.iload_n 1, 1) := by decide +kernel
theorem dX4_countWin_25 : decode cX4_countWin 25 = .ok (.dup2, 1) := by decide +kernel
theorem dX4_countWin_26 : decode cX4_countWin 26 = .ok (.iaload, 1) := by decide +kernel
theorem dX4_countWin_27 : decode cX4_countWin 27 = .ok (.iconst 1, 1) := by decide +kernel
theorem dX4_countWin_28 : decode cX4_countWin 28 = .ok (.iadd, 1) := by decide +kernel
theorem dX4_countWin_29 : decode cX4_countWin 29 = .ok (.iastore, 1) := by decide +kernel
theorem dX4_countWin_30 : decode cX4_countWin 30 = .ok (.aload_n 0, 1) := by decide +kernel
theorem dX4_countWin_31 : decode cX4_countWin 31 = .ok (.getfield 9, 3) := by decide +kernel
theorem dX4_countWin_34 : decode cX4_countWin 34 = .ok (.iload_n 1, 1) := by decide +kernel
theorem dX4_countWin_35 : decode cX4_countWin 35 = .ok (.iaload, 1) := by decide +kernel
theorem dX4_countWin_36 : decode cX4_countWin 36 = .ok (.ireturn, 1) := by decide +kernel
theorem dX4_markOut_0 : decode cX4_markOut 0 = .ok (.iconst 0, 1) := by decide +kernel
theorem dX4_markOut_1 : decode cX4_markOut 1 = .ok (.istore_n 3, 1) := by decide +kernel
theorem dX4_markOut_2 : decode cX4_markOut 2 = .ok (.iload_n 3, 1) := by decide +kernel
theorem dX4_markOut_3 : decode cX4_markOut 3 = .ok (.aload_n 0, 1) := by decide +kernel
theorem dX4_markOut_4 : decode cX4_markOut 4 = .ok (.getfield 33, 3) := by decide +kernel
theorem dX4_markOut_7 : decode cX4_markOut 7 = .ok (.if_icmp .ge 51, 3) := by decide +kernel
theorem dX4_markOut_10 : decode cX4_markOut 10 = .ok (.aload_n 0, 1) := by decide +kernel
theorem dX4_markOut_11 : decode cX4_markOut 11 = .ok (.getfield 21, 3) := by decide +kernel
theorem dX4_markOut_14 : decode cX4_markOut 14 = .ok (.iload_n 3, 1) := by decide +kernel
theorem dX4_markOut_15 : decode cX4_markOut 15 = .ok (.iaload, 1) := by decide +kernel
theorem dX4_markOut_16 : decode cX4_markOut 16 = .ok (.bipush (-4), 2) := by decide +kernel
theorem dX4_markOut_18 : decode cX4_markOut 18 = .ok (.if_icmp .ne 34, 3) := by decide +kernel
theorem dX4_markOut_21 : decode cX4_markOut 21 = .ok (.aload_n 0, 1) := by decide +kernel
theorem dX4_markOut_22 : decode cX4_markOut 22 = .ok (.getfield 9, 3) := by decide +kernel
theorem dX4_markOut_25 : decode cX4_markOut 25 = .ok (.iload_n 3, 1) := by decide +kernel
theorem dX4_markOut_26 : decode cX4_markOut 26 = .ok (.iaload, 1) := by decide +kernel
theorem dX4_markOut_27 : decode cX4_markOut 27 = .ok (.aload_n 0, 1) := by decide +kernel
theorem dX4_markOut_28 : decode cX4_markOut 28 = .ok (.getfield 27, 3) := by decide +kernel
theorem dX4_markOut_31 : decode cX4_markOut 31 = .ok (.iload_n 3, 1) := by decide +kernel
theorem dX4_markOut_32 : decode cX4_markOut 32 = .ok (.iaload, 1) := by decide +kernel
theorem dX4_markOut_33 : decode cX4_markOut 33 = .ok (.iadd, 1) := by decide +kernel
theorem dX4_markOut_34 : decode cX4_markOut 34 = .ok (.iload_n 2, 1) := by decide +kernel
theorem dX4_markOut_35 : decode cX4_markOut 35 = .ok (.if_icmp .ge 17, 3) := by decide +kernel
theorem dX4_markOut_38 : decode cX4_markOut 38 = .ok (.aload_n 0, 1) := by decide +kernel
theorem dX4_markOut_39 : decode cX4_markOut 39 = .ok (.getfield 21, 3) := by decide +kernel
theorem dX4_markOut_42 : decode cX4_markOut 42 = .ok (.iload_n 3, 1) := by decide +kernel
theorem dX4_markOut_43 : decode cX4_markOut 43 = .ok (.iload_n 1, 1) := by decide +kernel
theorem dX4_markOut_44 : decode cX4_markOut 44 = .ok (.iastore, 1) := by decide +kernel
theorem dX4_markOut_45 : decode cX4_markOut 45 = .ok (.aload_n 0, 1) := by decide +kernel
theorem dX4_markOut_46 : decode cX4_markOut 46 = .ok (.getfield 24, 3) := by decide +kernel
theorem dX4_markOut_49 : decode cX4_markOut 49 = .ok (.iload_n 3, 1) := by decide +kernel
theorem dX4_markOut_50 : decode cX4_markOut 50 = .ok (.iconst 0, 1) := by decide +kernel
theorem dX4_markOut_51 : decode cX4_markOut 51 = .ok (.iastore, 1) := by decide +kernel
theorem dX4_markOut_52 : decode cX4_markOut 52 = .ok (.iinc 3 1, 3) := by decide +kernel
theorem dX4_markOut_55 : decode cX4_markOut 55 = .ok (.goto (-53), 3) := by decide +kernel
theorem dX4_markOut_58 : decode cX4_markOut 58 = .ok (.return_, 1) := by decide +kernel
theorem dX4_arrange_0 : decode cX4_arrange 0 = .ok (.aload_n 1, 1) := by decide +kernel
theorem dX4_arrange_1 : decode cX4_arrange 1 = .ok (.getfield 73, 3) := by decide +kernel
theorem dX4_arrange_4 : decode cX4_arrange 4 = .ok (.tableswitch 51 1 3 #[43, 36, 28], 28) := by decide +kernel
theorem dX4_arrange_32 : decode cX4_arrange 32 = .ok (.aload_n 0, 1) := by decide +kernel
theorem dX4_arrange_33 : decode cX4_arrange 33 = .ok (.aload_n 1, 1) := by decide +kernel
theorem dX4_arrange_34 : decode cX4_arrange 34 = .ok (.invokevirtual 76, 3) := by decide +kernel
theorem dX4_arrange_37 : decode cX4_arrange 37 = .ok (.goto 22, 3) := by decide +kernel
theorem dX4_arrange_40 : decode cX4_arrange 40 = .ok (.aload_n 0, 1) := by decide +kernel
theorem dX4_arrange_41 : decode cX4_arrange 41 = .ok (.invokevirtual 80, 3) := by decide +kernel
theorem dX4_arrange_44 : decode cX4_arrange 44 = .ok (.goto 15, 3) := by decide +kernel
theorem dX4_arrange_47 : decode cX4_arrange 47 = .ok (.aload_n 0, 1) := by decide +kernel
theorem dX4_arrange_48 : decode cX4_arrange 48 = .ok (.iload_n 2, 1) := by decide +kernel
theorem dX4_arrange_49 : decode cX4_arrange 49 = .ok (.invokevirtual 83, 3) := by decide +kernel
theorem dX4_arrange_52 : decode cX4_arrange 52 = .ok (.goto 7, 3) := by decide +kernel
theorem dX4_arrange_55 : decode cX4_arrange 55 = .ok (.aload_n 0, 1) := by decide +kernel
theorem dX4_arrange_56 : decode cX4_arrange 56 = .ok (.invokevirtual 87, 3) := by decide +kernel
theorem dX4_arrange_59 : decode cX4_arrange 59 = .ok (.return_, 1) := by decide +kernel
theorem dX4_chooseWorstFirst_0 : decode cX4_chooseWorstFirst 0 = .ok (.iconst 0, 1) := by decide +kernel
theorem dX4_chooseWorstFirst_1 : decode cX4_chooseWorstFirst 1 = .ok (.istore_n 1, 1) := by decide +kernel
theorem dX4_chooseWorstFirst_2 : decode cX4_chooseWorstFirst 2 = .ok (.iload_n 1, 1) := by decide +kernel
theorem dX4_chooseWorstFirst_3 : decode cX4_chooseWorstFirst 3 = .ok (.aload_n 0, 1) := by decide +kernel
theorem dX4_chooseWorstFirst_4 : decode cX4_chooseWorstFirst 4 = .ok (.getfield 33, 3) := by decide +kernel
theorem dX4_chooseWorstFirst_7 : decode cX4_chooseWorstFirst 7 = .ok (.if_icmp .ge 20, 3) := by decide +kernel
theorem dX4_chooseWorstFirst_10 : decode cX4_chooseWorstFirst 10 = .ok (.aload_n 0, 1) := by decide +kernel
theorem dX4_chooseWorstFirst_11 : decode cX4_chooseWorstFirst 11 = .ok (.getfield 30, 3) := by decide +kernel
theorem dX4_chooseWorstFirst_14 : decode cX4_chooseWorstFirst 14 = .ok (.iload_n 1, 1) := by decide +kernel
theorem dX4_chooseWorstFirst_15 : decode cX4_chooseWorstFirst 15 = .ok (.aload_n 0, 1) := by decide +kernel
theorem dX4_chooseWorstFirst_16 : decode cX4_chooseWorstFirst 16 = .ok (.iload_n 1, 1) := by decide +kernel
theorem dX4_chooseWorstFirst_17 : decode cX4_chooseWorstFirst 17 = .ok (.invokevirtual 90, 3) := by decide +kernel
theorem dX4_chooseWorstFirst_20 : decode cX4_chooseWorstFirst 20 = .ok (.iastore, 1) := by decide +kernel
theorem dX4_chooseWorstFirst_21 : decode cX4_chooseWorstFirst 21 = .ok (.iinc 1 1, 3) := by decide +kernel
theorem dX4_chooseWorstFirst_24 : decode cX4_chooseWorstFirst 24 = .ok (.goto (-22), 3) := by decide +kernel
theorem dX4_chooseWorstFirst_27 : decode cX4_chooseWorstFirst 27 = .ok (.return_, 1) := by decide +kernel
theorem dX4_turnWheel_0 : decode cX4_turnWheel 0 = .ok (.iconst 0, 1) := by decide +kernel
theorem dX4_turnWheel_1 : decode cX4_turnWheel 1 = .ok (.istore_n 2, 1) := by decide +kernel
theorem dX4_turnWheel_2 : decode cX4_turnWheel 2 = .ok (.iload_n 2, 1) := by decide +kernel
theorem dX4_turnWheel_3 : decode cX4_turnWheel 3 = .ok (.aload_n 0, 1) := by decide +kernel
theorem dX4_turnWheel_4 : decode cX4_turnWheel 4 = .ok (.getfield 33, 3) := by decide +kernel
theorem dX4_turnWheel_7 : decode cX4_turnWheel 7 = .ok (.if_icmp .ge 21, 3) := by decide +kernel
theorem dX4_turnWheel_10 : decode cX4_turnWheel 10 = .ok (.aload_n 0, 1) := by decide +kernel
theorem dX4_turnWheel_11 : decode cX4_turnWheel 11 = .ok (.getfield 30, 3) := by decide +kernel
theorem dX4_turnWheel_14 : decode cX4_turnWheel 14 = .ok (.iload_n 2, 1) := by decide +kernel
theorem dX4_turnWheel_15 : decode cX4_turnWheel 15 = .ok (.aload_n 1, 1) := by decide +kernel
theorem dX4_turnWheel_16 : decode cX4_turnWheel 16 = .ok (.getfield 93, 3) := by decide +kernel
theorem dX4_turnWheel_19 : decode cX4_turnWheel 19 = .ok (.iload_n 2, 1) := by decide +kernel
theorem dX4_turnWheel_20 : decode cX4_turnWheel 20 = .ok (.iaload, 1) := by decide +kernel
theorem dX4_turnWheel_21 : decode cX4_turnWheel 21 = .ok (.iastore, 1) := by decide +kernel
theorem dX4_turnWheel_22 : decode cX4_turnWheel 22 = .ok (.iinc 2 1, 3) := by decide +kernel
theorem dX4_turnWheel_25 : decode cX4_turnWheel 25 = .ok (.goto (-23), 3) := by decide +kernel
theorem dX4_turnWheel_28 : decode cX4_turnWheel 28 = .ok (.return_, 1) := by decide +kernel
theorem dX4_chooseByBall_0 : decode cX4_chooseByBall 0 = .ok (.aload_n 0, 1) := by decide +kernel
theorem dX4_chooseByBall_1 : decode cX4_chooseByBall 1 = .ok (.getfield 30, 3) := by decide +kernel
theorem dX4_chooseByBall_4 : decode cX4_chooseByBall 4 = .ok (.iconst 0, 1) := by decide +kernel
theorem dX4_chooseByBall_5 : decode cX4_chooseByBall 5 = .ok (.iload_n 1, 1) := by decide +kernel
theorem dX4_chooseByBall_6 : decode cX4_chooseByBall 6 = .ok (.iastore, 1) := by decide +kernel
theorem dX4_chooseByBall_7 : decode cX4_chooseByBall 7 = .ok (.iconst 1, 1) := by decide +kernel
theorem dX4_chooseByBall_8 : decode cX4_chooseByBall 8 = .ok (.istore_n 2, 1) := by decide +kernel
theorem dX4_chooseByBall_9 : decode cX4_chooseByBall 9 = .ok (.iconst 0, 1) := by decide +kernel
theorem dX4_chooseByBall_10 : decode cX4_chooseByBall 10 = .ok (.istore_n 3, 1) := by decide +kernel
theorem dX4_chooseByBall_11 : decode cX4_chooseByBall 11 = .ok (.iload_n 3, 1) := by decide +kernel
theorem dX4_chooseByBall_12 : decode cX4_chooseByBall 12 = .ok (.aload_n 0, 1) := by decide +kernel
theorem dX4_chooseByBall_13 : decode cX4_chooseByBall 13 = .ok (.getfield 33, 3) := by decide +kernel
theorem dX4_chooseByBall_16 : decode cX4_chooseByBall 16 = .ok (.if_icmp .ge 41, 3) := by decide +kernel
theorem dX4_chooseByBall_19 : decode cX4_chooseByBall 19 = .ok (.aload_n 0, 1) := by decide +kernel
theorem dX4_chooseByBall_20 : decode cX4_chooseByBall 20 = .ok (.iload_n 3, 1) := by decide +kernel
theorem dX4_chooseByBall_21 : decode cX4_chooseByBall 21 = .ok (.invokevirtual 90, 3) := by decide +kernel
theorem dX4_chooseByBall_24 : decode cX4_chooseByBall 24 = .ok (.istore 4, 2) := by decide +kernel
theorem dX4_chooseByBall_26 : decode cX4_chooseByBall 26 = .ok (.iload 4, 2) := by decide +kernel
theorem dX4_chooseByBall_28 : decode cX4_chooseByBall 28 = .ok (.iload_n 1, 1) := by decide +kernel
theorem dX4_chooseByBall_29 : decode cX4_chooseByBall 29 = .ok (.if_icmp .eq 22, 3) := by decide +kernel
theorem dX4_chooseByBall_32 : decode cX4_chooseByBall 32 = .ok (.iload_n 2, 1) := by decide +kernel
theorem dX4_chooseByBall_33 : decode cX4_chooseByBall 33 = .ok (.aload_n 0, 1) := by decide +kernel
theorem dX4_chooseByBall_34 : decode cX4_chooseByBall 34 = .ok (.getfield 33, 3) := by decide +kernel
theorem dX4_chooseByBall_37 : decode cX4_chooseByBall 37 = .ok (.if_icmp .ge 14, 3) := by decide +kernel
theorem dX4_chooseByBall_40 : decode cX4_chooseByBall 40 = .ok (.aload_n 0, 1) := by decide +kernel
theorem dX4_chooseByBall_41 : decode cX4_chooseByBall 41 = .ok (.getfield 30, 3) := by decide +kernel
theorem dX4_chooseByBall_44 : decode cX4_chooseByBall 44 = .ok (.iload_n 2, 1) := by decide +kernel
theorem dX4_chooseByBall_45 : decode cX4_chooseByBall 45 = .ok (.iload 4, 2) := by decide +kernel
theorem dX4_chooseByBall_47 : decode cX4_chooseByBall 47 = .ok (.iastore, 1) := by decide +kernel
theorem dX4_chooseByBall_48 : decode cX4_chooseByBall 48 = .ok (.iinc 2 1, 3) := by decide +kernel
theorem dX4_chooseByBall_51 : decode cX4_chooseByBall 51 = .ok (.iinc 3 1, 3) := by decide +kernel
theorem dX4_chooseByBall_54 : decode cX4_chooseByBall 54 = .ok (.goto (-43), 3) := by decide +kernel
theorem dX4_chooseByBall_57 : decode cX4_chooseByBall 57 = .ok (.return_, 1) := by decide +kernel
theorem dX4_chooseByDay_0 : decode cX4_chooseByDay 0 = .ok (.iconst 0, 1) := by decide +kernel
theorem dX4_chooseByDay_1 : decode cX4_chooseByDay 1 = .ok (.istore_n 1, 1) := by decide +kernel
theorem dX4_chooseByDay_2 : decode cX4_chooseByDay 2 = .ok (.iload_n 1, 1) := by decide +kernel
theorem dX4_chooseByDay_3 : decode cX4_chooseByDay 3 = .ok (.aload_n 0, 1) := by decide +kernel
theorem dX4_chooseByDay_4 : decode cX4_chooseByDay 4 = .ok (.getfield 33, 3) := by decide +kernel
theorem dX4_chooseByDay_7 : decode cX4_chooseByDay 7 = .ok (.if_icmp .ge 70, 3) := by decide +kernel
theorem dX4_chooseByDay_10 : decode cX4_chooseByDay 10 = .ok (.aload_n 0, 1) := by decide +kernel
theorem dX4_chooseByDay_11 : decode cX4_chooseByDay 11 = .ok (.iload_n 1, 1) := by decide +kernel
theorem dX4_chooseByDay_12 : decode cX4_chooseByDay 12 = .ok (.invokevirtual 90, 3) := by decide +kernel
theorem dX4_chooseByDay_15 : decode cX4_chooseByDay 15 = .ok (.istore_n 2, 1) := by decide +kernel
theorem dX4_chooseByDay_16 : decode cX4_chooseByDay 16 = .ok (.iload_n 1, 1) := by decide +kernel
theorem dX4_chooseByDay_17 : decode cX4_chooseByDay 17 = .ok (.istore_n 3, 1) := by decide +kernel
theorem dX4_chooseByDay_18 : decode cX4_chooseByDay 18 = .ok (.iload_n 3, 1) := by decide +kernel
theorem dX4_chooseByDay_19 : decode cX4_chooseByDay 19 = .ok (.ifCond .le 45, 3) := by decide +kernel
theorem dX4_chooseByDay_22 : decode cX4_chooseByDay 22 = .ok (.aload_n 0, 1) := by decide +kernel
theorem dX4_chooseByDay_23 : decode cX4_chooseByDay 23 = .ok (.getfield 24, 3) := by decide +kernel
theorem dX4_chooseByDay_26 : decode cX4_chooseByDay 26 = .ok (.aload_n 0, 1) := by decide +kernel
theorem dX4_chooseByDay_27 : decode cX4_chooseByDay 27 = .ok (.getfield 30, 3) := by decide +kernel
theorem dX4_chooseByDay_30 : decode cX4_chooseByDay 30 = .ok (.iload_n 3, 1) := by decide +kernel
theorem dX4_chooseByDay_31 : decode cX4_chooseByDay 31 = .ok (.iconst 1, 1) := by decide +kernel
theorem dX4_chooseByDay_32 : decode cX4_chooseByDay 32 = .ok (.isub, 1) := by decide +kernel
theorem dX4_chooseByDay_33 : decode cX4_chooseByDay 33 = .ok (.iaload, 1) := by decide +kernel
theorem dX4_chooseByDay_34 : decode cX4_chooseByDay 34 = .ok (.iaload, 1) := by decide +kernel
theorem dX4_chooseByDay_35 : decode cX4_chooseByDay 35 = .ok (.aload_n 0, 1) := by decide +kernel
theorem dX4_chooseByDay_36 : decode cX4_chooseByDay 36 = .ok (.getfield 24, 3) := by decide +kernel
theorem dX4_chooseByDay_39 : decode cX4_chooseByDay 39 = .ok (.iload_n 2, 1) := by decide +kernel
theorem dX4_chooseByDay_40 : decode cX4_chooseByDay 40 = .ok (.iaload, 1) := by decide +kernel
theorem dX4_chooseByDay_41 : decode cX4_chooseByDay 41 = .ok (.if_icmp .ge 23, 3) := by decide +kernel
theorem dX4_chooseByDay_44 : decode cX4_chooseByDay 44 = .ok (.aload_n 0, 1) := by decide +kernel
theorem dX4_chooseByDay_45 : decode cX4_chooseByDay 45 = .ok (.getfield 30, 3) := by decide +kernel
theorem dX4_chooseByDay_48 : decode cX4_chooseByDay 48 = .ok (.iload_n 3, 1) := by decide +kernel
theorem dX4_chooseByDay_49 : decode cX4_chooseByDay 49 = .ok (.aload_n 0, 1) := by decide +kernel
theorem dX4_chooseByDay_50 : decode cX4_chooseByDay 50 = .ok (.getfield 30, 3) := by decide +kernel
theorem dX4_chooseByDay_53 : decode cX4_chooseByDay 53 = .ok (.iload_n 3, 1) := by decide +kernel
theorem dX4_chooseByDay_54 : decode cX4_chooseByDay 54 = .ok (.iconst 1, 1) := by decide +kernel
theorem dX4_chooseByDay_55 : decode cX4_chooseByDay 55 = .ok (.isub, 1) := by decide +kernel
theorem dX4_chooseByDay_56 : decode cX4_chooseByDay 56 = .ok (.iaload, 1) := by decide +kernel
theorem dX4_chooseByDay_57 : decode cX4_chooseByDay 57 = .ok (.iastore, 1) := by decide +kernel
theorem dX4_chooseByDay_58 : decode cX4_chooseByDay 58 = .ok (.iinc 3 (-1), 3) := by decide +kernel
theorem dX4_chooseByDay_61 : decode cX4_chooseByDay 61 = .ok (.goto (-43), 3) := by decide +kernel
theorem dX4_chooseByDay_64 : decode cX4_chooseByDay 64 = .ok (.aload_n 0, 1) := by decide +kernel
theorem dX4_chooseByDay_65 : decode cX4_chooseByDay 65 = .ok (.getfield 30, 3) := by decide +kernel
theorem dX4_chooseByDay_68 : decode cX4_chooseByDay 68 = .ok (.iload_n 3, 1) := by decide +kernel
theorem dX4_chooseByDay_69 : decode cX4_chooseByDay 69 = .ok (.iload_n 2, 1) := by decide +kernel
theorem dX4_chooseByDay_70 : decode cX4_chooseByDay 70 = .ok (.iastore, 1) := by decide +kernel
theorem dX4_chooseByDay_71 : decode cX4_chooseByDay 71 = .ok (.iinc 1 1, 3) := by decide +kernel
theorem dX4_chooseByDay_74 : decode cX4_chooseByDay 74 = .ok (.goto (-72), 3) := by decide +kernel
theorem dX4_chooseByDay_77 : decode cX4_chooseByDay 77 = .ok (.return_, 1) := by decide +kernel
theorem dX4_payAll_0 : decode cX4_payAll 0 = .ok (.aload_n 1, 1) := by decide +kernel
theorem dX4_payAll_1 : decode cX4_payAll 1 = .ok (.invokevirtual 96, 3) := by decide +kernel
theorem dX4_payAll_4 : decode cX4_payAll 4 = .ok (.istore 5, 2) := by decide +kernel
theorem dX4_payAll_6 : decode cX4_payAll 6 = .ok (.aload_n 1, 1) := by decide +kernel
theorem dX4_payAll_7 : decode cX4_payAll 7 = .ok (.getfield 73, 3) := by decide +kernel
theorem dX4_payAll_10 : decode cX4_payAll 10 = .ok (.iconst 4, 1) := by decide +kernel
theorem dX4_payAll_11 : decode cX4_payAll 11 = .ok (.if_icmp .ne 10, 3) := by decide +kernel
theorem dX4_payAll_14 : decode cX4_payAll 14 = .ok (.aload_n 1, 1) := by decide +kernel
theorem dX4_payAll_15 : decode cX4_payAll 15 = .ok (.invokevirtual 100, 3) := by decide +kernel
theorem dX4_payAll_18 : decode cX4_payAll 18 = .ok (.goto 4, 3) := by decide +kernel
theorem dX4_payAll_21 : decode cX4_payAll 21 = .ok (.iconst 0, 1) := by decide +kernel
theorem dX4_payAll_22 : decode cX4_payAll 22 = .ok (.istore 6, 2) := by decide +kernel
theorem dX4_payAll_24 : decode cX4_payAll 24 = .ok (.iconst 0, 1) := by decide +kernel
theorem dX4_payAll_25 : decode cX4_payAll 25 = .ok (.istore 7, 2) := by decide +kernel
theorem dX4_payAll_27 : decode cX4_payAll 27 = .ok (.iload 7, 2) := by decide +kernel
theorem dX4_payAll_29 : decode cX4_payAll 29 = .ok (.aload_n 0, 1) := by decide +kernel
theorem dX4_payAll_30 : decode cX4_payAll 30 = .ok (.getfield 33, 3) := by decide +kernel
theorem dX4_payAll_33 : decode cX4_payAll 33 = .ok (.if_icmp .ge 37, 3) := by decide +kernel
theorem dX4_payAll_36 : decode cX4_payAll 36 = .ok (.aload_n 3, 1) := by decide +kernel
theorem dX4_payAll_37 : decode cX4_payAll 37 = .ok (.iload 4, 2) := by decide +kernel
theorem dX4_payAll_39 : decode cX4_payAll 39 = .ok (.iload 7, 2) := by decide +kernel
theorem dX4_payAll_41 : decode cX4_payAll 41 = .ok (.iadd, 1) := by decide +kernel
theorem dX4_payAll_42 : decode cX4_payAll 42 = .ok (.aload_n 1, 1) := by decide +kernel
theorem dX4_payAll_43 : decode cX4_payAll 43 = .ok (.getfield 103, 3) := by decide +kernel
theorem dX4_payAll_46 : decode cX4_payAll 46 = .ok (.aload_n 0, 1) := by decide +kernel
theorem dX4_payAll_47 : decode cX4_payAll 47 = .ok (.getfield 18, 3) := by decide +kernel
theorem dX4_payAll_50 : decode cX4_payAll 50 = .ok (.iload 7, 2) := by decide +kernel
theorem dX4_payAll_52 : decode cX4_payAll 52 = .ok (.iaload, 1) := by decide +kernel
theorem dX4_payAll_53 : decode cX4_payAll 53 = .ok (.iaload, 1) := by decide +kernel
theorem dX4_payAll_54 : decode cX4_payAll 54 = .ok (.i2l, 1) := by decide +kernel
theorem dX4_payAll_55 : decode cX4_payAll 55 = .ok (.iload 5, 2) := by decide +kernel
theorem dX4_payAll_57 : decode cX4_payAll 57 = .ok (.i2l, 1) := by decide +kernel
theorem dX4_payAll_58 : decode cX4_payAll 58 = .ok (.lmul, 1) := by decide +kernel
theorem dX4_payAll_59 : decode cX4_payAll 59 = .ok (.iload 6, 2) := by decide +kernel
theorem dX4_payAll_61 : decode cX4_payAll 61 = .ok (.i2l, 1) := by decide +kernel
theorem dX4_payAll_62 : decode cX4_payAll 62 = .ok (.ladd, 1) := by decide +kernel
theorem dX4_payAll_63 : decode cX4_payAll 63 = .ok (.lastore, 1) := by decide +kernel
theorem dX4_payAll_64 : decode cX4_payAll 64 = .ok (.iinc 7 1, 3) := by decide +kernel
theorem dX4_payAll_67 : decode cX4_payAll 67 = .ok (.goto (-40), 3) := by decide +kernel
theorem dX4_payAll_70 : decode cX4_payAll 70 = .ok (.aload_n 1, 1) := by decide +kernel
theorem dX4_payAll_71 : decode cX4_payAll 71 = .ok (.getfield 73, 3) := by decide +kernel
theorem dX4_payAll_74 : decode cX4_payAll 74 = .ok (.iconst 4, 1) := by decide +kernel
theorem dX4_payAll_75 : decode cX4_payAll 75 = .ok (.if_icmp .ne 4, 3) := by decide +kernel
theorem dX4_payAll_78 : decode cX4_payAll 78 = .ok (.return_, 1) := by decide +kernel
theorem dX4_payAll_79 : decode cX4_payAll 79 = .ok (.aload_n 1, 1) := by decide +kernel
theorem dX4_payAll_80 : decode cX4_payAll 80 = .ok (.getfield 73, 3) := by decide +kernel
theorem dX4_payAll_83 : decode cX4_payAll 83 = .ok (.iconst 1, 1) := by decide +kernel
theorem dX4_payAll_84 : decode cX4_payAll 84 = .ok (.if_icmp .ne 43, 3) := by decide +kernel
theorem dX4_payAll_87 : decode cX4_payAll 87 = .ok (.iconst 0, 1) := by decide +kernel
theorem dX4_payAll_88 : decode cX4_payAll 88 = .ok (.istore 7, 2) := by decide +kernel
theorem dX4_payAll_90 : decode cX4_payAll 90 = .ok (.iload 7, 2) := by decide +kernel
theorem dX4_payAll_92 : decode cX4_payAll 92 = .ok (.aload_n 0, 1) := by decide +kernel
theorem dX4_payAll_93 : decode cX4_payAll 93 = .ok (.getfield 33, 3) := by decide +kernel
theorem dX4_payAll_96 : decode cX4_payAll 96 = .ok (.if_icmp .ge 30, 3) := by decide +kernel
theorem dX4_payAll_99 : decode cX4_payAll 99 = .ok (.aload_n 0, 1) := by decide +kernel
theorem dX4_payAll_100 : decode cX4_payAll 100 = .ok (.aload_n 1, 1) := by decide +kernel
theorem dX4_payAll_101 : decode cX4_payAll 101 = .ok (.aload_n 0, 1) := by decide +kernel
theorem dX4_payAll_102 : decode cX4_payAll 102 = .ok (.iload 7, 2) := by decide +kernel
theorem dX4_payAll_104 : decode cX4_payAll 104 = .ok (.invokevirtual 90, 3) := by decide +kernel
theorem dX4_payAll_107 : decode cX4_payAll 107 = .ok (.aload_n 1, 1) := by decide +kernel
theorem dX4_payAll_108 : decode cX4_payAll 108 = .ok (.getfield 49, 3) := by decide +kernel
theorem dX4_payAll_111 : decode cX4_payAll 111 = .ok (.iload 7, 2) := by decide +kernel
theorem dX4_payAll_113 : decode cX4_payAll 113 = .ok (.iaload, 1) := by decide +kernel
theorem dX4_payAll_114 : decode cX4_payAll 114 = .ok (.aload_n 3, 1) := by decide +kernel
theorem dX4_payAll_115 : decode cX4_payAll 115 = .ok (.iload 4, 2) := by decide +kernel
theorem dX4_payAll_117 : decode cX4_payAll 117 = .ok (.invokevirtual 106, 3) := by decide +kernel
theorem dX4_payAll_120 : decode cX4_payAll 120 = .ok (.iinc 7 1, 3) := by decide +kernel
theorem dX4_payAll_123 : decode cX4_payAll 123 = .ok (.goto (-33), 3) := by decide +kernel
theorem dX4_payAll_126 : decode cX4_payAll 126 = .ok (.return_, 1) := by decide +kernel
theorem dX4_payAll_127 : decode cX4_payAll 127 = .ok (.aload_n 1, 1) := by decide +kernel
theorem dX4_payAll_128 : decode cX4_payAll 128 = .ok (.getfield 73, 3) := by decide +kernel
theorem dX4_payAll_131 : decode cX4_payAll 131 = .ok (.iconst 2, 1) := by decide +kernel
theorem dX4_payAll_132 : decode cX4_payAll 132 = .ok (.if_icmp .ne 8, 3) := by decide +kernel
theorem dX4_payAll_135 : decode cX4_payAll 135 = .ok (.aload_n 0, 1) := by decide +kernel
theorem dX4_payAll_136 : decode cX4_payAll 136 = .ok (.aload_n 2, 1) := by decide +kernel
theorem dX4_payAll_137 : decode cX4_payAll 137 = .ok (.invokevirtual 110, 3) := by decide +kernel
theorem dX4_payAll_140 : decode cX4_payAll 140 = .ok (.aload_n 0, 1) := by decide +kernel
theorem dX4_payAll_141 : decode cX4_payAll 141 = .ok (.aload_n 1, 1) := by decide +kernel
theorem dX4_payAll_142 : decode cX4_payAll 142 = .ok (.iconst 0, 1) := by decide +kernel
theorem dX4_payAll_143 : decode cX4_payAll 143 = .ok (.iconst 1, 1) := by decide +kernel
theorem dX4_payAll_144 : decode cX4_payAll 144 = .ok (.aload_n 3, 1) := by decide +kernel
theorem dX4_payAll_145 : decode cX4_payAll 145 = .ok (.iload 4, 2) := by decide +kernel
theorem dX4_payAll_147 : decode cX4_payAll 147 = .ok (.invokevirtual 106, 3) := by decide +kernel
theorem dX4_payAll_150 : decode cX4_payAll 150 = .ok (.return_, 1) := by decide +kernel
theorem dX4_payChoices_0 : decode cX4_payChoices 0 = .ok (.iload_n 3, 1) := by decide +kernel
theorem dX4_payChoices_1 : decode cX4_payChoices 1 = .ok (.ifCond .ne 4, 3) := by decide +kernel
theorem dX4_payChoices_4 : decode cX4_payChoices 4 = .ok (.return_, 1) := by decide +kernel
theorem dX4_payChoices_5 : decode cX4_payChoices 5 = .ok (.aload_n 0, 1) := by decide +kernel
theorem dX4_payChoices_6 : decode cX4_payChoices 6 = .ok (.aload_n 1, 1) := by decide +kernel
theorem dX4_payChoices_7 : decode cX4_payChoices 7 = .ok (.iload_n 2, 1) := by decide +kernel
theorem dX4_payChoices_8 : decode cX4_payChoices 8 = .ok (.invokevirtual 114, 3) := by decide +kernel
theorem dX4_payChoices_11 : decode cX4_payChoices 11 = .ok (.iconst 0, 1) := by decide +kernel
theorem dX4_payChoices_12 : decode cX4_payChoices 12 = .ok (.istore 6, 2) := by decide +kernel
theorem dX4_payChoices_14 : decode cX4_payChoices 14 = .ok (.iload 6, 2) := by decide +kernel
theorem dX4_payChoices_16 : decode cX4_payChoices 16 = .ok (.aload_n 0, 1) := by decide +kernel
theorem dX4_payChoices_17 : decode cX4_payChoices 17 = .ok (.getfield 33, 3) := by decide +kernel
theorem dX4_payChoices_20 : decode cX4_payChoices 20 = .ok (.if_icmp .ge 36, 3) := by decide +kernel
theorem dX4_payChoices_23 : decode cX4_payChoices 23 = .ok (.aload 4, 2) := by decide +kernel
theorem dX4_payChoices_25 : decode cX4_payChoices 25 = .ok (.iload 5, 2) := by decide +kernel
theorem dX4_payChoices_27 : decode cX4_payChoices 27 = .ok (.aload_n 0, 1) := by decide +kernel
theorem dX4_payChoices_28 : decode cX4_payChoices 28 = .ok (.getfield 30, 3) := by decide +kernel
theorem dX4_payChoices_31 : decode cX4_payChoices 31 = .ok (.iload 6, 2) := by decide +kernel
theorem dX4_payChoices_33 : decode cX4_payChoices 33 = .ok (.iaload, 1) := by decide +kernel
theorem dX4_payChoices_34 : decode cX4_payChoices 34 = .ok (.iadd, 1) := by decide +kernel
theorem dX4_payChoices_35 : decode cX4_payChoices 35 = .ok (.dup2, 1) := by decide +kernel
theorem dX4_payChoices_36 : decode cX4_payChoices 36 = .ok (.laload, 1) := by decide +kernel
theorem dX4_payChoices_37 : decode cX4_payChoices 37 = .ok (.aload_n 1, 1) := by decide +kernel
theorem dX4_payChoices_38 : decode cX4_payChoices 38 = .ok (.getfield 118, 3) := by decide +kernel
theorem dX4_payChoices_41 : decode cX4_payChoices 41 = .ok (.iload 6, 2) := by decide +kernel
theorem dX4_payChoices_43 : decode cX4_payChoices 43 = .ok (.iaload, 1) := by decide +kernel
theorem dX4_payChoices_44 : decode cX4_payChoices 44 = .ok (.i2l, 1) := by decide +kernel
theorem dX4_payChoices_45 : decode cX4_payChoices 45 = .ok (.iload_n 3, 1) := by decide +kernel
theorem dX4_payChoices_46 : decode cX4_payChoices 46 = .ok (.i2l, 1) := by decide +kernel
theorem dX4_payChoices_47 : decode cX4_payChoices 47 = .ok (.lmul, 1) := by decide +kernel
theorem dX4_payChoices_48 : decode cX4_payChoices 48 = .ok (.ladd, 1) := by decide +kernel
theorem dX4_payChoices_49 : decode cX4_payChoices 49 = .ok (.lastore, 1) := by decide +kernel
theorem dX4_payChoices_50 : decode cX4_payChoices 50 = .ok (.iinc 6 1, 3) := by decide +kernel
theorem dX4_payChoices_53 : decode cX4_payChoices 53 = .ok (.goto (-39), 3) := by decide +kernel
theorem dX4_payChoices_56 : decode cX4_payChoices 56 = .ok (.return_, 1) := by decide +kernel
theorem dX5_init_0 : decode cX5_init 0 = .ok (.aload_n 0, 1) := by decide +kernel
theorem dX5_init_1 : decode cX5_init 1 = .ok (.invokespecial 3, 3) := by decide +kernel
theorem dX5_init_4 : decode cX5_init 4 = .ok (.aload_n 0, 1) := by decide +kernel
theorem dX5_init_5 : decode cX5_init 5 = .ok (.sipush 241, 3) := by decide +kernel
theorem dX5_init_8 : decode cX5_init 8 = .ok (.newarray .int, 2) := by decide +kernel
theorem dX5_init_10 : decode cX5_init 10 = .ok (.putfield 9, 3) := by decide +kernel
theorem dX5_init_13 : decode cX5_init 13 = .ok (.aload_n 0, 1) := by decide +kernel
theorem dX5_init_14 : decode cX5_init 14 = .ok (.sipush 241, 3) := by decide +kernel
theorem dX5_init_17 : decode cX5_init 17 = .ok (.newarray .int, 2) := by decide +kernel
theorem dX5_init_19 : decode cX5_init 19 = .ok (.putfield 15, 3) := by decide +kernel
theorem dX5_init_22 : decode cX5_init 22 = .ok (.aload_n 0, 1) := by decide +kernel
theorem dX5_init_23 : decode cX5_init 23 = .ok (.sipush 241, 3) := by decide +kernel
theorem dX5_init_26 : decode cX5_init 26 = .ok (.newarray .int, 2) := by decide +kernel
theorem dX5_init_28 : decode cX5_init 28 = .ok (.putfield 18, 3) := by decide +kernel
theorem dX5_init_31 : decode cX5_init 31 = .ok (.aload_n 0, 1) := by decide +kernel
theorem dX5_init_32 : decode cX5_init 32 = .ok (.sipush 240, 3) := by decide +kernel
theorem dX5_init_35 : decode cX5_init 35 = .ok (.newarray .byte, 2) := by decide +kernel
theorem dX5_init_37 : decode cX5_init 37 = .ok (.putfield 21, 3) := by decide +kernel
theorem dX5_init_40 : decode cX5_init 40 = .ok (.return_, 1) := by decide +kernel
theorem dX5_put_0 : decode cX5_put 0 = .ok (.bipush 56, 2) := by decide +kernel
theorem dX5_put_2 : decode cX5_put 2 = .ok (.istore_n 3, 1) := by decide +kernel
theorem dX5_put_3 : decode cX5_put 3 = .ok (.iload_n 3, 1) := by decide +kernel
theorem dX5_put_4 : decode cX5_put 4 = .ok (.ifCond .lt 43, 3) := by decide +kernel
theorem dX5_put_7 : decode cX5_put 7 = .ok (.aload_n 0, 1) := by decide +kernel
theorem dX5_put_8 : decode cX5_put 8 = .ok (.getfield 25, 3) := by decide +kernel
theorem dX5_put_11 : decode cX5_put 11 = .ok (.sipush 240, 3) := by decide +kernel
theorem dX5_put_14 : decode cX5_put 14 = .ok (.if_icmp .ge 33, 3) := by decide +kernel
theorem dX5_put_17 : decode cX5_put 17 = .ok (.aload_n 0, 1) := by decide +kernel
theorem dX5_put_18 : decode cX5_put 18 = .ok (.getfield 21, 3) := by decide +kernel
theorem dX5_put_21 : decode cX5_put 21 = .ok (.aload_n 0, 1) := by decide +kernel
theorem dX5_put_22 : decode cX5_put 22 = .ok (.getfield 25, 3) := by decide +kernel
theorem dX5_put_25 : decode cX5_put 25 = .ok (.lload_n 1, 1) := by decide +kernel
theorem dX5_put_26 : decode cX5_put 26 = .ok (.iload_n 3, 1) := by decide +kernel
theorem dX5_put_27 : decode cX5_put 27 = .ok (.lushr, 1) := by decide +kernel
theorem dX5_put_28 : decode cX5_put 28 = .ok (.l2i, 1) := by decide +kernel
theorem dX5_put_29 : decode cX5_put 29 = .ok (.i2b, 1) := by decide +kernel
theorem dX5_put_30 : decode cX5_put 30 = .ok (.bastore, 1) := by decide +kernel
theorem dX5_put_31 : decode cX5_put 31 = .ok (.aload_n 0, 1) := by decide +kernel
theorem dX5_put_32 : decode cX5_put 32 = .ok (.dup, 1) := by decide +kernel
theorem dX5_put_33 : decode cX5_put 33 = .ok (.getfield 25, 3) := by decide +kernel
theorem dX5_put_36 : decode cX5_put 36 = .ok (.iconst 1, 1) := by decide +kernel
theorem dX5_put_37 : decode cX5_put 37 = .ok (.iadd, 1) := by decide +kernel
theorem dX5_put_38 : decode cX5_put 38 = .ok (.putfield 25, 3) := by decide +kernel
theorem dX5_put_41 : decode cX5_put 41 = .ok (.iinc 3 (-8), 3) := by decide +kernel
theorem dX5_put_44 : decode cX5_put 44 = .ok (.goto (-41), 3) := by decide +kernel
theorem dX5_put_47 : decode cX5_put 47 = .ok (.return_, 1) := by decide +kernel
theorem dX5_split_0 : decode cX5_split 0 = .ok (.aload_n 0, 1) := by decide +kernel
theorem dX5_split_1 : decode cX5_split 1 = .ok (.iconst 0, 1) := by decide +kernel
theorem dX5_split_2 : decode cX5_split 2 = .ok (.putfield 29, 3) := by decide +kernel
theorem dX5_split_5 : decode cX5_split 5 = .ok (.iconst 0, 1) := by decide +kernel
theorem dX5_split_6 : decode cX5_split 6 = .ok (.istore_n 1, 1) := by decide +kernel
theorem dX5_split_7 : decode cX5_split 7 = .ok (.iload_n 1, 1) := by decide +kernel
theorem dX5_split_8 : decode cX5_split 8 = .ok (.sipush 240, 3) := by decide +kernel
theorem dX5_split_11 : decode cX5_split 11 = .ok (.if_icmp .gt 89, 3) := by decide +kernel
theorem dX5_split_14 : decode cX5_split 14 = .ok (.aload_n 0, 1) := by decide +kernel
theorem dX5_split_15 : decode cX5_split 15 = .ok (.getfield 29, 3) := by decide +kernel
theorem dX5_split_18 : decode cX5_split 18 = .ok (.aload_n 0, 1) := by decide +kernel
theorem dX5_split_19 : decode cX5_split 19 = .ok (.getfield 25, 3) := by decide +kernel
theorem dX5_split_22 : decode cX5_split 22 = .ok (.if_icmp .ge 30, 3) := by decide +kernel
theorem dX5_split_25 : decode cX5_split 25 = .ok (.aload_n 0, 1) := by decide +kernel
theorem dX5_split_26 : decode cX5_split 26 = .ok (.getfield 21, 3) := by decide +kernel
theorem dX5_split_29 : decode cX5_split 29 = .ok (.aload_n 0, 1) := by decide +kernel
theorem dX5_split_30 : decode cX5_split 30 = .ok (.getfield 29, 3) := by decide +kernel
theorem dX5_split_33 : decode cX5_split 33 = .ok (.baload, 1) := by decide +kernel
theorem dX5_split_34 : decode cX5_split 34 = .ok (.bipush 32, 2) := by decide +kernel
theorem dX5_split_36 : decode cX5_split 36 = .ok (.if_icmp .ne 16, 3) := by decide +kernel
theorem dX5_split_39 : decode cX5_split 39 = .ok (.aload_n 0, 1) := by decide +kernel
theorem dX5_split_40 : decode cX5_split 40 = .ok (.dup, 1) := by decide +kernel
theorem dX5_split_41 : decode cX5_split 41 = .ok (.getfield 29, 3) := by decide +kernel
theorem dX5_split_44 : decode cX5_split 44 = .ok (.iconst 1, 1) := by decide +kernel
theorem dX5_split_45 : decode cX5_split 45 = .ok (.iadd, 1) := by decide +kernel
theorem dX5_split_46 : decode cX5_split 46 = .ok (.putfield 29, 3) := by decide +kernel
theorem dX5_split_49 : decode cX5_split 49 = .ok (.goto (-35), 3) := by decide +kernel
theorem dX5_split_52 : decode cX5_split 52 = .ok (.aload_n 0, 1) := by decide +kernel
theorem dX5_split_53 : decode cX5_split 53 = .ok (.getfield 15, 3) := by decide +kernel
theorem dX5_split_56 : decode cX5_split 56 = .ok (.iload_n 1, 1) := by decide +kernel
theorem dX5_split_57 : decode cX5_split 57 = .ok (.aload_n 0, 1) := by decide +kernel
theorem dX5_split_58 : decode cX5_split 58 = .ok (.getfield 29, 3) := by decide +kernel
theorem dX5_split_61 : decode cX5_split 61 = .ok (.iastore, 1) := by decide +kernel
theorem dX5_split_62 : decode cX5_split 62 = .ok (.aload_n 0, 1) := by decide +kernel
theorem dX5_split_63 : decode cX5_split 63 = .ok (.getfield 18, 3) := by decide +kernel
theorem dX5_split_66 : decode cX5_split 66 = .ok (.iload_n 1, 1) := by decide +kernel
theorem dX5_split_67 : decode cX5_split 67 = .ok (.iconst 0, 1) := by decide +kernel
theorem dX5_split_68 : decode cX5_split 68 = .ok (.iastore, 1) := by decide +kernel
theorem dX5_split_69 : decode cX5_split 69 = .ok (.aload_n 0, 1) := by decide +kernel
theorem dX5_split_70 : decode cX5_split 70 = .ok (.getfield 9, 3) := by decide +kernel
theorem dX5_split_73 : decode cX5_split 73 = .ok (.iload_n 1, 1) := by decide +kernel
theorem dX5_split_74 : decode cX5_split 74 = .ok (.aload_n 0, 1) := by decide +kernel
theorem dX5_split_75 : decode cX5_split 75 = .ok (.invokevirtual 32, 3) := by decide +kernel
theorem dX5_split_78 : decode cX5_split 78 = .ok (.iastore, 1) := by decide +kernel
theorem dX5_split_79 : decode cX5_split 79 = .ok (.aload_n 0, 1) := by decide +kernel
theorem dX5_split_80 : decode cX5_split 80 = .ok (.getfield 9, 3) := by decide +kernel
theorem dX5_split_83 : decode cX5_split 83 = .ok (.iload_n 1, 1) := by decide +kernel
theorem dX5_split_84 : decode cX5_split 84 = .ok (.iaload, 1) := by decide +kernel
theorem dX5_split_85 : decode cX5_split 85 = .ok (.ifCond .ne 4, 3) := by decide +kernel
theorem dX5_split_88 : decode cX5_split 88 = .ok (.return_, 1) := by decide +kernel
theorem dX5_split_89 : decode cX5_split 89 = .ok (.aload_n 0, 1) := by decide +kernel
theorem dX5_split_90 : decode cX5_split 90 = .ok (.iload_n 1, 1) := by decide +kernel
theorem dX5_split_91 : decode cX5_split 91 = .ok (.invokevirtual 36, 3) := by decide +kernel
theorem dX5_split_94 : decode cX5_split 94 = .ok (.iinc 1 1, 3) := by decide +kernel
theorem dX5_split_97 : decode cX5_split 97 = .ok (.goto (-90), 3) := by decide +kernel
theorem dX5_split_100 : decode cX5_split 100 = .ok (.return_, 1) := by decide +kernel
theorem dX5_kindOfNext_0 : decode cX5_kindOfNext 0 = .ok (.aload_n 0, 1) := by decide +kernel
theorem dX5_kindOfNext_1 : decode cX5_kindOfNext 1 = .ok (.getfield 29, 3) := by decide +kernel
theorem dX5_kindOfNext_4 : decode cX5_kindOfNext 4 = .ok (.aload_n 0, 1) := by decide +kernel
theorem dX5_kindOfNext_5 : decode cX5_kindOfNext 5 = .ok (.getfield 25, 3) := by decide +kernel
theorem dX5_kindOfNext_8 : decode cX5_kindOfNext 8 = .ok (.if_icmp .lt 5, 3) := by decide +kernel
theorem dX5_kindOfNext_11 : decode cX5_kindOfNext 11 = .ok (.iconst 0, 1) := by decide +kernel
theorem dX5_kindOfNext_12 : decode cX5_kindOfNext 12 = .ok (.ireturn, 1) := by decide +kernel
theorem dX5_kindOfNext_13 : decode cX5_kindOfNext 13 = .ok (.aload_n 0, 1) := by decide +kernel
theorem dX5_kindOfNext_14 : decode cX5_kindOfNext 14 = .ok (.getfield 21, 3) := by decide +kernel
theorem dX5_kindOfNext_17 : decode cX5_kindOfNext 17 = .ok (.aload_n 0, 1) := by decide +kernel
theorem dX5_kindOfNext_18 : decode cX5_kindOfNext 18 = .ok (.getfield 29, 3) := by decide +kernel
theorem dX5_kindOfNext_21 : decode cX5_kindOfNext 21 = .ok (.baload, 1) := by decide +kernel
theorem dX5_kindOfNext_22 : decode cX5_kindOfNext 22 = .ok (.invokestatic 40, 3) := by decide +kernel
theorem dX5_kindOfNext_25 : decode cX5_kindOfNext 25 = .ok (.ifCond .eq 5, 3) := by decide +kernel
theorem dX5_kindOfNext_28 : decode cX5_kindOfNext 28 = .ok (.iconst 1, 1) := by decide +kernel
theorem dX5_kindOfNext_29 : decode cX5_kindOfNext 29 = .ok (.ireturn, 1) := by decide +kernel
theorem dX5_kindOfNext_30 : decode cX5_kindOfNext 30 = .ok (.aload_n 0, 1) := by decide +kernel
theorem dX5_kindOfNext_31 : decode cX5_kindOfNext 31 = .ok (.getfield 21, 3) := by decide +kernel
theorem dX5_kindOfNext_34 : decode cX5_kindOfNext 34 = .ok (.aload_n 0, 1) := by decide +kernel
theorem dX5_kindOfNext_35 : decode cX5_kindOfNext 35 = .ok (.getfield 29, 3) := by decide +kernel
theorem dX5_kindOfNext_38 : decode cX5_kindOfNext 38 = .ok (.baload, 1) := by decide +kernel
theorem dX5_kindOfNext_39 : decode cX5_kindOfNext 39 = .ok (.invokestatic 44, 3) := by decide +kernel
theorem dX5_kindOfNext_42 : decode cX5_kindOfNext 42 = .ok (.ifCond .eq 5, 3) := by decide +kernel
theorem dX5_kindOfNext_45 : decode cX5_kindOfNext 45 = .ok (.iconst 2, 1) := by decide +kernel
theorem dX5_kindOfNext_46 : decode cX5_kindOfNext 46 = .ok (.ireturn, 1) := by decide +kernel
theorem dX5_kindOfNext_47 : decode cX5_kindOfNext 47 = .ok (.aload_n 0, 1) := by decide +kernel
theorem dX5_kindOfNext_48 : decode cX5_kindOfNext 48 = .ok (.getfield 21, 3) := by decide +kernel
theorem dX5_kindOfNext_51 : decode cX5_kindOfNext 51 = .ok (.aload_n 0, 1) := by decide +kernel
theorem dX5_kindOfNext_52 : decode cX5_kindOfNext 52 = .ok (.getfield 29, 3) := by decide +kernel
theorem dX5_kindOfNext_55 : decode cX5_kindOfNext 55 = .ok (.baload, 1) := by decide +kernel
theorem dX5_kindOfNext_56 : decode cX5_kindOfNext 56 = .ok (.bipush 59, 2) := by decide +kernel
theorem dX5_kindOfNext_58 : decode cX5_kindOfNext 58 = .ok (.if_icmp .ne 7, 3) := by decide +kernel
theorem dX5_kindOfNext_61 : decode cX5_kindOfNext 61 = .ok (.iconst 3, 1) := by decide +kernel
theorem dX5_kindOfNext_62 : decode cX5_kindOfNext 62 = .ok (.goto 4, 3) := by decide +kernel
theorem dX5_kindOfNext_65 : decode cX5_kindOfNext 65 = .ok (.iconst 4, 1) := by decide +kernel
theorem dX5_kindOfNext_66 : decode cX5_kindOfNext 66 = .ok (.ireturn, 1) := by decide +kernel
theorem dX5_takeNext_0 : decode cX5_takeNext 0 = .ok (.aload_n 0, 1) := by decide +kernel
theorem dX5_takeNext_1 : decode cX5_takeNext 1 = .ok (.getfield 9, 3) := by decide +kernel
theorem dX5_takeNext_4 : decode cX5_takeNext 4 = .ok (.iload_n 1, 1) := by decide +kernel
theorem dX5_takeNext_5 : decode cX5_takeNext 5 = .ok (.iaload, 1) := by decide +kernel
theorem dX5_takeNext_6 : decode cX5_takeNext 6 = .ok (.lookupswitch 42 #[(1, 26), (2, 34)], 26) := by decide +kernel
theorem dX5_takeNext_32 : decode cX5_takeNext 32 = .ok (.aload_n 0, 1) := by decide +kernel
theorem dX5_takeNext_33 : decode cX5_takeNext 33 = .ok (.iload_n 1, 1) := by decide +kernel
theorem dX5_takeNext_34 : decode cX5_takeNext 34 = .ok (.invokevirtual 47, 3) := by decide +kernel
theorem dX5_takeNext_37 : decode cX5_takeNext 37 = .ok (.goto 21, 3) := by decide +kernel
theorem dX5_takeNext_40 : decode cX5_takeNext 40 = .ok (.aload_n 0, 1) := by decide +kernel
theorem dX5_takeNext_41 : decode cX5_takeNext 41 = .ok (.iload_n 1, 1) := by decide +kernel
theorem dX5_takeNext_42 : decode cX5_takeNext 42 = .ok (.invokevirtual 50, 3) := by decide +kernel
theorem dX5_takeNext_45 : decode cX5_takeNext 45 = .ok (.goto 13, 3) := by decide +kernel
theorem dX5_takeNext_48 : decode cX5_takeNext 48 = .ok (.aload_n 0, 1) := by decide +kernel
theorem dX5_takeNext_49 : decode cX5_takeNext 49 = .ok (.dup, 1) := by decide +kernel
theorem dX5_takeNext_50 : decode cX5_takeNext 50 = .ok (.getfield 29, 3) := by decide +kernel
theorem dX5_takeNext_53 : decode cX5_takeNext 53 = .ok (.iconst 1, 1) := by decide +kernel
theorem dX5_takeNext_54 : decode cX5_takeNext 54 = .ok (.iadd, 1) := by decide +kernel
theorem dX5_takeNext_55 : decode cX5_takeNext 55 = .ok (.putfield 29, 3) := by decide +kernel
theorem dX5_takeNext_58 : decode cX5_takeNext 58 = .ok (.return_, 1) := by decide +kernel
theorem dX5_isLetter_0 : decode cX5_isLetter 0 = .ok (.iload_n 0, 1) := by decide +kernel
theorem dX5_isLetter_1 : decode cX5_isLetter 1 = .ok (.bipush 97, 2) := by decide +kernel
theorem dX5_isLetter_3 : decode cX5_isLetter 3 = .ok (.if_icmp .lt 13, 3) := by decide +kernel
theorem dX5_isLetter_6 : decode cX5_isLetter 6 = .ok (.iload_n 0, 1) := by decide +kernel
theorem dX5_isLetter_7 : decode cX5_isLetter 7 = .ok (.bipush 122, 2) := by decide +kernel
theorem dX5_isLetter_9 : decode cX5_isLetter 9 = .ok (.if_icmp .gt 7, 3) := by decide +kernel
theorem dX5_isLetter_12 : decode cX5_isLetter 12 = .ok (.iconst 1, 1) := by decide +kernel
theorem dX5_isLetter_13 : decode cX5_isLetter 13 = .ok (.goto 4, 3) := by decide +kernel
theorem dX5_isLetter_16 : decode cX5_isLetter 16 = .ok (.iconst 0, 1) := by decide +kernel
theorem dX5_isLetter_17 : decode cX5_isLetter 17 = .ok (.ireturn, 1) := by decide +kernel
theorem dX5_isFigure_0 : decode cX5_isFigure 0 = .ok (.iload_n 0, 1) := by decide +kernel
theorem dX5_isFigure_1 : decode cX5_isFigure 1 = .ok (.bipush 48, 2) := by decide +kernel
theorem dX5_isFigure_3 : decode cX5_isFigure 3 = .ok (.if_icmp .lt 13, 3) := by decide +kernel
theorem dX5_isFigure_6 : decode cX5_isFigure 6 = .ok (.iload_n 0, 1) := by decide +kernel
theorem dX5_isFigure_7 : decode cX5_isFigure 7 = .ok (.bipush 57, 2) := by decide +kernel
theorem dX5_isFigure_9 : decode cX5_isFigure 9 = .ok (.if_icmp .gt 7, 3) := by decide +kernel
theorem dX5_isFigure_12 : decode cX5_isFigure 12 = .ok (.iconst 1, 1) := by decide +kernel
theorem dX5_isFigure_13 : decode cX5_isFigure 13 = .ok (.goto 4, 3) := by decide +kernel
theorem dX5_isFigure_16 : decode cX5_isFigure 16 = .ok (.iconst 0, 1) := by decide +kernel
theorem dX5_isFigure_17 : decode cX5_isFigure 17 = .ok (.ireturn, 1) := by decide +kernel
theorem dX5_takeName_0 : decode cX5_takeName 0 = .ok (.aload_n 0, 1) := by decide +kernel
theorem dX5_takeName_1 : decode cX5_takeName 1 = .ok (.getfield 29, 3) := by decide +kernel
theorem dX5_takeName_4 : decode cX5_takeName 4 = .ok (.aload_n 0, 1) := by decide +kernel
theorem dX5_takeName_5 : decode cX5_takeName 5 = .ok (.getfield 25, 3) := by decide +kernel
theorem dX5_takeName_8 : decode cX5_takeName 8 = .ok (.if_icmp .ge 31, 3) := by decide +kernel
theorem dX5_takeName_11 : decode cX5_takeName 11 = .ok (.aload_n 0, 1) := by decide +kernel
theorem dX5_takeName_12 : decode cX5_takeName 12 = .ok (.getfield 21, 3) := by decide +kernel
theorem dX5_takeName_15 : decode cX5_takeName 15 = .ok (.aload_n 0, 1) := by decide +kernel
theorem dX5_takeName_16 : decode cX5_takeName 16 = .ok (.getfield 29, 3) := by decide +kernel
theorem dX5_takeName_19 : decode cX5_takeName 19 = .ok (.baload, 1) := by decide +kernel
theorem dX5_takeName_20 : decode cX5_takeName 20 = .ok (.invokestatic 40, 3) := by decide +kernel
theorem dX5_takeName_23 : decode cX5_takeName 23 = .ok (.ifCond .eq 16, 3) := by decide +kernel
theorem dX5_takeName_26 : decode cX5_takeName 26 = .ok (.aload_n 0, 1) := by decide +kernel
theorem dX5_takeName_27 : decode cX5_takeName 27 = .ok (.dup, 1) := by decide +kernel
theorem dX5_takeName_28 : decode cX5_takeName 28 = .ok (.getfield 29, 3) := by decide +kernel
theorem dX5_takeName_31 : decode cX5_takeName 31 = .ok (.iconst 1, 1) := by decide +kernel
theorem dX5_takeName_32 : decode cX5_takeName 32 = .ok (.iadd, 1) := by decide +kernel
theorem dX5_takeName_33 : decode cX5_takeName 33 = .ok (.putfield 29, 3) := by decide +kernel
theorem dX5_takeName_36 : decode cX5_takeName 36 = .ok (.goto (-36), 3) := by decide +kernel
theorem dX5_takeName_39 : decode cX5_takeName 39 = .ok (.aload_n 0, 1) := by decide +kernel
theorem dX5_takeName_40 : decode cX5_takeName 40 = .ok (.getfield 9, 3) := by decide +kernel
theorem dX5_takeName_43 : decode cX5_takeName 43 = .ok (.iload_n 1, 1) := by decide +kernel
theorem dX5_takeName_44 : decode cX5_takeName 44 = .ok (.iconst 4, 1) := by decide +kernel
theorem dX5_takeName_45 : decode cX5_takeName 45 = .ok (.iastore, 1) := by decide +kernel
theorem dX5_takeName_46 : decode cX5_takeName 46 = .ok (.iconst 0, 1) := by decide +kernel
theorem dX5_takeName_47 : decode cX5_takeName 47 = .ok (.istore_n 2, 1) := by decide +kernel
theorem dX5_takeName_48 : decode cX5_takeName 48 = .ok (.iload_n 2, 1) := by decide +kernel
theorem dX5_takeName_49 : decode cX5_takeName 49 = .ok (.bipush 11, 2) := by decide +kernel
theorem dX5_takeName_51 : decode cX5_takeName 51 = .ok (.if_icmp .ge 40, 3) := by decide +kernel
theorem dX5_takeName_54 : decode cX5_takeName 54 = .ok (.aload_n 0, 1) := by decide +kernel
theorem dX5_takeName_55 : decode cX5_takeName 55 = .ok (.aload_n 0, 1) := by decide +kernel
theorem dX5_takeName_56 : decode cX5_takeName 56 = .ok (.getfield 15, 3) := by decide +kernel
theorem dX5_takeName_59 : decode cX5_takeName 59 = .ok (.iload_n 1, 1) := by decide +kernel
theorem dX5_takeName_60 : decode cX5_takeName 60 = .ok (.iaload, 1) := by decide +kernel
theorem dX5_takeName_61 : decode cX5_takeName 61 = .ok (.iload_n 2, 1) := by decide +kernel
theorem dX5_takeName_62 : decode cX5_takeName 62 = .ok (.invokestatic 53, 3) := by decide +kernel
theorem dX5_takeName_65 : decode cX5_takeName 65 = .ok (.invokevirtual 57, 3) := by decide +kernel
theorem dX5_takeName_68 : decode cX5_takeName 68 = .ok (.ifCond .eq 17, 3) := by decide +kernel
theorem dX5_takeName_71 : decode cX5_takeName 71 = .ok (.aload_n 0, 1) := by decide +kernel
theorem dX5_takeName_72 : decode cX5_takeName 72 = .ok (.getfield 9, 3) := by decide +kernel
theorem dX5_takeName_75 : decode cX5_takeName 75 = .ok (.iload_n 1, 1) := by decide +kernel
theorem dX5_takeName_76 : decode cX5_takeName 76 = .ok (.iconst 1, 1) := by decide +kernel
theorem dX5_takeName_77 : decode cX5_takeName 77 = .ok (.iastore, 1) := by decide +kernel
theorem dX5_takeName_78 : decode cX5_takeName 78 = .ok (.aload_n 0, 1) := by decide +kernel
theorem dX5_takeName_79 : decode cX5_takeName 79 = .ok (.getfield 18, 3) := by decide +kernel
theorem dX5_takeName_82 : decode cX5_takeName 82 = .ok (.iload_n 1, 1) := by decide +kernel
theorem dX5_takeName_83 : decode cX5_takeName 83 = .ok (.iload_n 2, 1) := by decide +kernel
theorem dX5_takeName_84 : decode cX5_takeName 84 = .ok (.iastore, 1) := by decide +kernel
theorem dX5_takeName_85 : decode cX5_takeName 85 = .ok (.iinc 2 1, 3) := by decide +kernel
theorem dX5_takeName_88 : decode cX5_takeName 88 = .ok (.goto (-40), 3) := by decide +kernel
theorem dX5_takeName_91 : decode cX5_takeName 91 = .ok (.return_, 1) := by decide +kernel
theorem dX5_takeFigures_0 : decode cX5_takeFigures 0 = .ok (.iconst 0, 1) := by decide +kernel
theorem dX5_takeFigures_1 : decode cX5_takeFigures 1 = .ok (.istore_n 2, 1) := by decide +kernel
theorem dX5_takeFigures_2 : decode cX5_takeFigures 2 = .ok (.aload_n 0, 1) := by decide +kernel
theorem dX5_takeFigures_3 : decode cX5_takeFigures 3 = .ok (.getfield 29, 3) := by decide +kernel
theorem dX5_takeFigures_6 : decode cX5_takeFigures 6 = .ok (.aload_n 0, 1) := by decide +kernel
theorem dX5_takeFigures_7 : decode cX5_takeFigures 7 = .ok (.getfield 25, 3) := by decide +kernel
theorem dX5_takeFigures_10 : decode cX5_takeFigures 10 = .ok (.if_icmp .ge 49, 3) := by decide +kernel
theorem dX5_takeFigures_13 : decode cX5_takeFigures 13 = .ok (.aload_n 0, 1) := by decide +kernel
theorem dX5_takeFigures_14 : decode cX5_takeFigures 14 = .ok (.getfield 21, 3) := by decide +kernel
theorem dX5_takeFigures_17 : decode cX5_takeFigures 17 = .ok (.aload_n 0, 1) := by decide +kernel
theorem dX5_takeFigures_18 : decode cX5_takeFigures 18 = .ok (.getfield 29, 3) := by decide +kernel
theorem dX5_takeFigures_21 : decode cX5_takeFigures 21 = .ok (.baload, 1) := by decide +kernel
theorem dX5_takeFigures_22 : decode cX5_takeFigures 22 = .ok (.invokestatic 44, 3) := by decide +kernel
theorem dX5_takeFigures_25 : decode cX5_takeFigures 25 = .ok (.ifCond .eq 34, 3) := by decide +kernel
theorem dX5_takeFigures_28 : decode cX5_takeFigures 28 = .ok (.iload_n 2, 1) := by decide +kernel
theorem dX5_takeFigures_29 : decode cX5_takeFigures 29 = .ok (.bipush 10, 2) := by decide +kernel
theorem dX5_takeFigures_31 : decode cX5_takeFigures 31 = .ok (.imul, 1) := by decide +kernel
theorem dX5_takeFigures_32 : decode cX5_takeFigures 32 = .ok (.aload_n 0, 1) := by decide +kernel
theorem dX5_takeFigures_33 : decode cX5_takeFigures 33 = .ok (.getfield 21, 3) := by decide +kernel
theorem dX5_takeFigures_36 : decode cX5_takeFigures 36 = .ok (.aload_n 0, 1) := by decide +kernel
theorem dX5_takeFigures_37 : decode cX5_takeFigures 37 = .ok (.getfield 29, 3) := by decide +kernel
theorem dX5_takeFigures_40 : decode cX5_takeFigures 40 = .ok (.baload, 1) := by decide +kernel
theorem dX5_takeFigures_41 : decode cX5_takeFigures 41 = .ok (.bipush 48, 2) := by decide +kernel
theorem dX5_takeFigures_43 : decode cX5_takeFigures 43 = .ok (.isub, 1) := by decide +kernel
theorem dX5_takeFigures_44 : decode cX5_takeFigures 44 = .ok (.iadd, 1) := by decide +kernel
theorem dX5_takeFigures_45 : decode cX5_takeFigures 45 = .ok (.istore_n 2, 1) := by decide +kernel
theorem dX5_takeFigures_46 : decode cX5_takeFigures 46 = .ok (.aload_n 0, 1) := by decide +kernel
theorem dX5_takeFigures_47 : decode cX5_takeFigures 47 = .ok (.dup, 1) := by decide +kernel
theorem dX5_takeFigures_48 : decode cX5_takeFigures 48 = .ok (.getfield 29, 3) := by decide +kernel
theorem dX5_takeFigures_51 : decode cX5_takeFigures 51 = .ok (.iconst 1, 1) := by decide +kernel
theorem dX5_takeFigures_52 : decode cX5_takeFigures 52 = .ok (.iadd, 1) := by decide +kernel
theorem dX5_takeFigures_53 : decode cX5_takeFigures 53 = .ok (.putfield 29, 3) := by decide +kernel
theorem dX5_takeFigures_56 : decode cX5_takeFigures 56 = .ok (.goto (-54), 3) := by decide +kernel
theorem dX5_takeFigures_59 : decode cX5_takeFigures 59 = .ok (.aload_n 0, 1) := by decide +kernel
theorem dX5_takeFigures_60 : decode cX5_takeFigures 60 = .ok (.getfield 29, 3) := by decide +kernel
theorem dX5_takeFigures_63 : decode cX5_takeFigures 63 = .ok (.aload_n 0, 1) := by decide +kernel
theorem dX5_takeFigures_64 : decode cX5_takeFigures 64 = .ok (.getfield 15, 3) := by decide +kernel
theorem dX5_takeFigures_67 : decode cX5_takeFigures 67 = .ok (.iload_n 1, 1) := by decide +kernel
theorem dX5_takeFigures_68 : decode cX5_takeFigures 68 = .ok (.iaload, 1) := by decide +kernel
theorem dX5_takeFigures_69 : decode cX5_takeFigures 69 = .ok (.isub, 1) := by decide +kernel
theorem dX5_takeFigures_70 : decode cX5_takeFigures 70 = .ok (.iconst 2, 1) := by decide +kernel
theorem dX5_takeFigures_71 : decode cX5_takeFigures 71 = .ok (.if_icmp .le 7, 3) := by decide +kernel
theorem dX5_takeFigures_74 : decode cX5_takeFigures 74 = .ok (.iconst 1, 1) := by decide +kernel
theorem dX5_takeFigures_75 : decode cX5_takeFigures 75 = .ok (.goto 4, 3) := by decide +kernel
theorem dX5_takeFigures_78 : decode cX5_takeFigures 78 = .ok (.iconst 0, 1) := by decide +kernel
theorem dX5_takeFigures_79 : decode cX5_takeFigures 79 = .ok (.istore_n 3, 1) := by decide +kernel
theorem dX5_takeFigures_80 : decode cX5_takeFigures 80 = .ok (.aload_n 0, 1) := by decide +kernel
theorem dX5_takeFigures_81 : decode cX5_takeFigures 81 = .ok (.getfield 9, 3) := by decide +kernel
theorem dX5_takeFigures_84 : decode cX5_takeFigures 84 = .ok (.iload_n 1, 1) := by decide +kernel
theorem dX5_takeFigures_85 : decode cX5_takeFigures 85 = .ok (.iload_n 3, 1) := by decide +kernel
theorem dX5_takeFigures_86 : decode cX5_takeFigures 86 = .ok (.ifCond .eq 7, 3) := by decide +kernel
theorem dX5_takeFigures_89 : decode cX5_takeFigures 89 = .ok (.iconst 4, 1) := by decide +kernel
theorem dX5_takeFigures_90 : decode cX5_takeFigures 90 = .ok (.goto 4, 3) := by decide +kernel
theorem dX5_takeFigures_93 : decode cX5_takeFigures 93 = .ok (.iconst 2, 1) := by decide +kernel
theorem dX5_takeFigures_94 : decode cX5_takeFigures 94 = .ok (.iastore, 1) := by decide +kernel
theorem dX5_takeFigures_95 : decode cX5_takeFigures 95 = .ok (.aload_n 0, 1) := by decide +kernel
theorem dX5_takeFigures_96 : decode cX5_takeFigures 96 = .ok (.getfield 18, 3) := by decide +kernel
theorem dX5_takeFigures_99 : decode cX5_takeFigures 99 = .ok (.iload_n 1, 1) := by decide +kernel
theorem dX5_takeFigures_100 : decode cX5_takeFigures 100 = .ok (.iload_n 3, 1) := by decide +kernel
theorem dX5_takeFigures_101 : decode cX5_takeFigures 101 = .ok (.ifCond .eq 7, 3) := by decide +kernel
theorem dX5_takeFigures_104 : decode cX5_takeFigures 104 = .ok (.iconst 0, 1) := by decide +kernel
theorem dX5_takeFigures_105 : decode cX5_takeFigures 105 = .ok (.goto 4, 3) := by decide +kernel
theorem dX5_takeFigures_108 : decode cX5_takeFigures 108 = .ok (.iload_n 2, 1) := by decide +kernel
theorem dX5_takeFigures_109 : decode cX5_takeFigures 109 = .ok (.iastore, 1) := by decide +kernel
theorem dX5_takeFigures_110 : decode cX5_takeFigures 110 = .ok (.return_, 1) := by decide +kernel
theorem dX5_isWord_0 : decode cX5_isWord 0 = .ok (.aload_n 0, 1) := by decide +kernel
theorem dX5_isWord_1 : decode cX5_isWord 1 = .ok (.getfield 29, 3) := by decide +kernel
theorem dX5_isWord_4 : decode cX5_isWord 4 = .ok (.iload_n 1, 1) := by decide +kernel
theorem dX5_isWord_5 : decode cX5_isWord 5 = .ok (.isub, 1) := by decide +kernel
theorem dX5_isWord_6 : decode cX5_isWord 6 = .ok (.aload_n 2, 1) := by decide +kernel
theorem dX5_isWord_7 : decode cX5_isWord 7 = .ok (.invokevirtual 61, 3) := by decide +kernel
theorem dX5_isWord_10 : decode cX5_isWord 10 = .ok (.if_icmp .eq 5, 3) := by decide +kernel
theorem dX5_isWord_13 : decode cX5_isWord 13 = .ok (.iconst 0, 1) := by decide +kernel
theorem dX5_isWord_14 : decode cX5_isWord 14 = .ok (.ireturn, 1) := by decide +kernel
theorem dX5_isWord_15 : decode cX5_isWord 15 = .ok (.iconst 0, 1) := by decide +kernel
theorem dX5_isWord_16 : decode cX5_isWord 16 = .ok (.istore_n 3, 1) := by decide +kernel
theorem dX5_isWord_17 : decode cX5_isWord 17 = .ok (.iload_n 3, 1) := by decide +kernel
theorem dX5_isWord_18 : decode cX5_isWord 18 = .ok (.aload_n 2, 1) := by decide +kernel
theorem dX5_isWord_19 : decode cX5_isWord 19 = .ok (.invokevirtual 61, 3) := by decide +kernel
theorem dX5_isWord_22 : decode cX5_isWord 22 = .ok (.if_icmp .ge 27, 3) := by decide +kernel
theorem dX5_isWord_25 : decode cX5_isWord 25 = .ok (.aload_n 0, 1) := by decide +kernel
theorem dX5_isWord_26 : decode cX5_isWord 26 = .ok (.getfield 21, 3) := by decide +kernel
theorem dX5_isWord_29 : decode cX5_isWord 29 = .ok (.iload_n 1, 1) := by decide +kernel
theorem dX5_isWord_30 : decode cX5_isWord 30 = .ok (.iload_n 3, 1) := by decide +kernel
theorem dX5_isWord_31 : decode cX5_isWord 31 = .ok (.iadd, 1) := by decide +kernel
theorem dX5_isWord_32 : decode cX5_isWord 32 = .ok (.baload, 1) := by decide +kernel
theorem dX5_isWord_33 : decode cX5_isWord 33 = .ok (.aload_n 2, 1) := by decide +kernel
theorem dX5_isWord_34 : decode cX5_isWord 34 = .ok (.iload_n 3, 1) := by decide +kernel
theorem dX5_isWord_35 : decode cX5_isWord 35 = .ok (.invokevirtual 65, 3) := by decide +kernel
theorem dX5_isWord_38 : decode cX5_isWord 38 = .ok (.if_icmp .eq 5, 3) := by decide +kernel
theorem dX5_isWord_41 : decode cX5_isWord 41 = .ok (.iconst 0, 1) := by decide +kernel
theorem dX5_isWord_42 : decode cX5_isWord 42 = .ok (.ireturn, 1) := by decide +kernel
theorem dX5_isWord_43 : decode cX5_isWord 43 = .ok (.iinc 3 1, 3) := by decide +kernel
theorem dX5_isWord_46 : decode cX5_isWord 46 = .ok (.goto (-29), 3) := by decide +kernel
theorem dX5_isWord_49 : decode cX5_isWord 49 = .ok (.iconst 1, 1) := by decide +kernel
theorem dX5_isWord_50 : decode cX5_isWord 50 = .ok (.ireturn, 1) := by decide +kernel
theorem dX5_word_0 : decode cX5_word 0 = .ok (.iload_n 0, 1) := by decide +kernel
theorem dX5_word_1 : decode cX5_word 1 = .ok (.tableswitch 85 0 9 #[55, 58, 61, 64, 67, 70, 73, 76, 79, 82], 55) := by decide +kernel
theorem dX5_word_56 : decode cX5_word 56 = .ok (.ldc 69, 2) := by decide +kernel
theorem dX5_word_58 : decode cX5_word 58 = .ok (.areturn, 1) := by decide +kernel
theorem dX5_word_59 : decode cX5_word 59 = .ok (.ldc 71, 2) := by decide +kernel
theorem dX5_word_61 : decode cX5_word 61 = .ok (.areturn, 1) := by decide +kernel
theorem dX5_word_62 : decode cX5_word 62 = .ok (.ldc 73, 2) := by decide +kernel
theorem dX5_word_64 : decode cX5_word 64 = .ok (.areturn, 1) := by decide +kernel
theorem dX5_word_65 : decode cX5_word 65 = .ok (.ldc 75, 2) := by decide +kernel
theorem dX5_word_67 : decode cX5_word 67 = .ok (.areturn, 1) := by decide +kernel
theorem dX5_word_68 : decode cX5_word 68 = .ok (.ldc 77, 2) := by decide +kernel
theorem dX5_word_70 : decode cX5_word 70 = .ok (.areturn, 1) := by decide +kernel
theorem dX5_word_71 : decode cX5_word 71 = .ok (.ldc 79, 2) := by decide +kernel
theorem dX5_word_73 : decode cX5_word 73 = .ok (.areturn, 1) := by decide +kernel
theorem dX5_word_74 : decode cX5_word 74 = .ok (.ldc 81, 2) := by decide +kernel
theorem dX5_word_76 : decode cX5_word 76 = .ok (.areturn, 1) := by decide +kernel
theorem dX5_word_77 : decode cX5_word 77 = .ok (.ldc 83, 2) := by decide +kernel
theorem dX5_word_79 : decode cX5_word 79 = .ok (.areturn, 1) := by decide +kernel
theorem dX5_word_80 : decode cX5_word 80 = .ok (.ldc 85, 2) := by decide +kernel
theorem dX5_word_82 : decode cX5_word 82 = .ok (.areturn, 1) := by decide +kernel
theorem dX5_word_83 : decode cX5_word 83 = .ok (.ldc 87, 2) := by decide +kernel
theorem dX5_word_85 : decode cX5_word 85 = .ok (.areturn, 1) := by decide +kernel
theorem dX5_word_86 : decode cX5_word 86 = .ok (.ldc 89, 2) := by decide +kernel
theorem dX5_word_88 : decode cX5_word 88 = .ok (.areturn, 1) := by decide +kernel
theorem dX6_init_0 : decode cX6_init 0 = .ok (.aload_n 0, 1) := by decide +kernel
theorem dX6_init_1 : decode cX6_init 1 = .ok (.invokespecial 3, 3) := by decide +kernel
theorem dX6_init_4 : decode cX6_init 4 = .ok (.aload_n 0, 1) := by decide +kernel
theorem dX6_init_5 : decode cX6_init 5 = .ok (.sipush 768, 3) := by decide +kernel
theorem dX6_init_8 : decode cX6_init 8 = .ok (.newarray .long, 2) := by decide +kernel
theorem dX6_init_10 : decode cX6_init 10 = .ok (.putfield 9, 3) := by decide +kernel
theorem dX6_init_13 : decode cX6_init 13 = .ok (.aload_n 0, 1) := by decide +kernel
theorem dX6_init_14 : decode cX6_init 14 = .ok (.sipush 128, 3) := by decide +kernel
theorem dX6_init_17 : decode cX6_init 17 = .ok (.newarray .long, 2) := by decide +kernel
theorem dX6_init_19 : decode cX6_init 19 = .ok (.putfield 15, 3) := by decide +kernel
theorem dX6_init_22 : decode cX6_init 22 = .ok (.aload_n 0, 1) := by decide +kernel
theorem dX6_init_23 : decode cX6_init 23 = .ok (.bipush 6, 2) := by decide +kernel
theorem dX6_init_25 : decode cX6_init 25 = .ok (.newarray .long, 2) := by decide +kernel
theorem dX6_init_27 : decode cX6_init 27 = .ok (.putfield 18, 3) := by decide +kernel
theorem dX6_init_30 : decode cX6_init 30 = .ok (.aload_n 0, 1) := by decide +kernel
theorem dX6_init_31 : decode cX6_init 31 = .ok (.bipush 7, 2) := by decide +kernel
theorem dX6_init_33 : decode cX6_init 33 = .ok (.newarray .int, 2) := by decide +kernel
theorem dX6_init_35 : decode cX6_init 35 = .ok (.putfield 21, 3) := by decide +kernel
theorem dX6_init_38 : decode cX6_init 38 = .ok (.aload_n 0, 1) := by decide +kernel
theorem dX6_init_39 : decode cX6_init 39 = .ok (.bipush 7, 2) := by decide +kernel
theorem dX6_init_41 : decode cX6_init 41 = .ok (.newarray .int, 2) := by decide +kernel
theorem dX6_init_43 : decode cX6_init 43 = .ok (.putfield 25, 3) := by decide +kernel
theorem dX6_init_46 : decode cX6_init 46 = .ok (.aload_n 0, 1) := by decide +kernel
theorem dX6_init_47 : decode cX6_init 47 = .ok (.iconst 4, 1) := by decide +kernel
theorem dX6_init_48 : decode cX6_init 48 = .ok (.newarray .int, 2) := by decide +kernel
theorem dX6_init_50 : decode cX6_init 50 = .ok (.putfield 28, 3) := by decide +kernel
theorem dX6_init_53 : decode cX6_init 53 = .ok (.aload_n 0, 1) := by decide +kernel
theorem dX6_init_54 : decode cX6_init 54 = .ok (.new 31, 3) := by decide +kernel
theorem dX6_init_57 : decode cX6_init 57 = .ok (.dup, 1) := by decide +kernel
theorem dX6_init_58 : decode cX6_init 58 = .ok (.invokespecial 33, 3) := by decide +kernel
theorem dX6_init_61 : decode cX6_init 61 = .ok (.putfield 34, 3) := by decide +kernel
theorem dX6_init_64 : decode cX6_init 64 = .ok (.aload_n 0, 1) := by decide +kernel
theorem dX6_init_65 : decode cX6_init 65 = .ok (.new 38, 3) := by decide +kernel
theorem dX6_init_68 : decode cX6_init 68 = .ok (.dup, 1) := by decide +kernel
theorem dX6_init_69 : decode cX6_init 69 = .ok (.invokespecial 40, 3) := by decide +kernel
theorem dX6_init_72 : decode cX6_init 72 = .ok (.putfield 41, 3) := by decide +kernel
theorem dX6_init_75 : decode cX6_init 75 = .ok (.aload_n 0, 1) := by decide +kernel
theorem dX6_init_76 : decode cX6_init 76 = .ok (.new 45, 3) := by decide +kernel
theorem dX6_init_79 : decode cX6_init 79 = .ok (.dup, 1) := by decide +kernel
theorem dX6_init_80 : decode cX6_init 80 = .ok (.invokespecial 47, 3) := by decide +kernel
theorem dX6_init_83 : decode cX6_init 83 = .ok (.putfield 48, 3) := by decide +kernel
theorem dX6_init_86 : decode cX6_init 86 = .ok (.return_, 1) := by decide +kernel
theorem dX6_begin_0 : decode cX6_begin 0 = .ok (.aload_n 0, 1) := by decide +kernel
theorem dX6_begin_1 : decode cX6_begin 1 = .ok (.getfield 48, 3) := by decide +kernel
theorem dX6_begin_4 : decode cX6_begin 4 = .ok (.aload_n 1, 1) := by decide +kernel
theorem dX6_begin_5 : decode cX6_begin 5 = .ok (.invokevirtual 52, 3) := by decide +kernel
theorem dX6_begin_8 : decode cX6_begin 8 = .ok (.aload_n 0, 1) := by decide +kernel
theorem dX6_begin_9 : decode cX6_begin 9 = .ok (.getfield 34, 3) := by decide +kernel
theorem dX6_begin_12 : decode cX6_begin 12 = .ok (.aload_n 2, 1) := by decide +kernel
theorem dX6_begin_13 : decode cX6_begin 13 = .ok (.invokevirtual 56, 3) := by decide +kernel
theorem dX6_begin_16 : decode cX6_begin 16 = .ok (.aload_n 0, 1) := by decide +kernel
theorem dX6_begin_17 : decode cX6_begin 17 = .ok (.iconst 0, 1) := by decide +kernel
theorem dX6_begin_18 : decode cX6_begin 18 = .ok (.putfield 59, 3) := by decide +kernel
theorem dX6_begin_21 : decode cX6_begin 21 = .ok (.iconst 0, 1) := by decide +kernel
theorem dX6_begin_22 : decode cX6_begin 22 = .ok (.istore_n 3, 1) := by decide +kernel
theorem dX6_begin_23 : decode cX6_begin 23 = .ok (.iload_n 3, 1) := by decide +kernel
theorem dX6_begin_24 : decode cX6_begin 24 = .ok (.aload_n 2, 1) := by decide +kernel
theorem dX6_begin_25 : decode cX6_begin 25 = .ok (.getfield 63, 3) := by decide +kernel
theorem dX6_begin_28 : decode cX6_begin 28 = .ok (.if_icmp .ge 88, 3) := by decide +kernel
theorem dX6_begin_31 : decode cX6_begin 31 = .ok (.aload_n 2, 1) := by decide +kernel
theorem dX6_begin_32 : decode cX6_begin 32 = .ok (.getfield 66, 3) := by decide +kernel
theorem dX6_begin_35 : decode cX6_begin 35 = .ok (.iload_n 3, 1) := by decide +kernel
theorem dX6_begin_36 : decode cX6_begin 36 = .ok (.iaload, 1) := by decide +kernel
theorem dX6_begin_37 : decode cX6_begin 37 = .ok (.iconst 2, 1) := by decide +kernel
theorem dX6_begin_38 : decode cX6_begin 38 = .ok (.if_icmp .ne 72, 3) := by decide +kernel
theorem dX6_begin_41 : decode cX6_begin 41 = .ok (.aload_n 0, 1) := by decide +kernel
theorem dX6_begin_42 : decode cX6_begin 42 = .ok (.getfield 59, 3) := by decide +kernel
theorem dX6_begin_45 : decode cX6_begin 45 = .ok (.bipush 7, 2) := by decide +kernel
theorem dX6_begin_47 : decode cX6_begin 47 = .ok (.if_icmp .ge 63, 3) := by decide +kernel
theorem dX6_begin_50 : decode cX6_begin 50 = .ok (.aload_n 0, 1) := by decide +kernel
theorem dX6_begin_51 : decode cX6_begin 51 = .ok (.getfield 21, 3) := by decide +kernel
theorem dX6_begin_54 : decode cX6_begin 54 = .ok (.aload_n 0, 1) := by decide +kernel
theorem dX6_begin_55 : decode cX6_begin 55 = .ok (.getfield 59, 3) := by decide +kernel
theorem dX6_begin_58 : decode cX6_begin 58 = .ok (.iload_n 3, 1) := by decide +kernel
theorem dX6_begin_59 : decode cX6_begin 59 = .ok (.iastore, 1) := by decide +kernel
theorem dX6_begin_60 : decode cX6_begin 60 = .ok (.aload_n 0, 1) := by decide +kernel
theorem dX6_begin_61 : decode cX6_begin 61 = .ok (.getfield 25, 3) := by decide +kernel
theorem dX6_begin_64 : decode cX6_begin 64 = .ok (.aload_n 0, 1) := by decide +kernel
theorem dX6_begin_65 : decode cX6_begin 65 = .ok (.getfield 59, 3) := by decide +kernel
theorem dX6_begin_68 : decode cX6_begin 68 = .ok (.aload_n 0, 1) := by decide +kernel
theorem dX6_begin_69 : decode cX6_begin 69 = .ok (.getfield 48, 3) := by decide +kernel
theorem dX6_begin_72 : decode cX6_begin 72 = .ok (.getfield 69, 3) := by decide +kernel
theorem dX6_begin_75 : decode cX6_begin 75 = .ok (.aload_n 2, 1) := by decide +kernel
theorem dX6_begin_76 : decode cX6_begin 76 = .ok (.getfield 72, 3) := by decide +kernel
theorem dX6_begin_79 : decode cX6_begin 79 = .ok (.iload_n 3, 1) := by decide +kernel
theorem dX6_begin_80 : decode cX6_begin 80 = .ok (.iaload, 1) := by decide +kernel
theorem dX6_begin_81 : decode cX6_begin 81 = .ok (.iaload, 1) := by decide +kernel
theorem dX6_begin_82 : decode cX6_begin 82 = .ok (.aload_n 0, 1) := by decide +kernel
theorem dX6_begin_83 : decode cX6_begin 83 = .ok (.getfield 48, 3) := by decide +kernel
theorem dX6_begin_86 : decode cX6_begin 86 = .ok (.getfield 69, 3) := by decide +kernel
theorem dX6_begin_89 : decode cX6_begin 89 = .ok (.aload_n 2, 1) := by decide +kernel
theorem dX6_begin_90 : decode cX6_begin 90 = .ok (.getfield 75, 3) := by decide +kernel
theorem dX6_begin_93 : decode cX6_begin 93 = .ok (.iload_n 3, 1) := by decide +kernel
theorem dX6_begin_94 : decode cX6_begin 94 = .ok (.iaload, 1) := by decide +kernel
theorem dX6_begin_95 : decode cX6_begin 95 = .ok (.iaload, 1) := by decide +kernel
theorem dX6_begin_96 : decode cX6_begin 96 = .ok (.invokestatic 78, 3) := by decide +kernel
theorem dX6_begin_99 : decode cX6_begin 99 = .ok (.iastore, 1) := by decide +kernel
theorem dX6_begin_100 : decode cX6_begin 100 = .ok (.aload_n 0, 1) := by decide +kernel
theorem dX6_begin_101 : decode cX6_begin 101 = .ok (.dup, 1) := by decide +kernel
theorem dX6_begin_102 : decode cX6_begin 102 = .ok (.getfield 59, 3) := by decide +kernel
theorem dX6_begin_105 : decode cX6_begin 105 = .ok (.iconst 1, 1) := by decide +kernel
theorem dX6_begin_106 : decode cX6_begin 106 = .ok (.iadd, 1) := by decide +kernel
theorem dX6_begin_107 : decode cX6_begin 107 = .ok (.putfield 59, 3) := by decide +kernel
theorem dX6_begin_110 : decode cX6_begin 110 = .ok (.iinc 3 1, 3) := by decide +kernel
theorem dX6_begin_113 : decode cX6_begin 113 = .ok (.goto (-90), 3) := by decide +kernel
theorem dX6_begin_116 : decode cX6_begin 116 = .ok (.return_, 1) := by decide +kernel
theorem dX6_lookAt_0 : decode cX6_lookAt 0 = .ok (.iconst 0, 1) := by decide +kernel
theorem dX6_lookAt_1 : decode cX6_lookAt 1 = .ok (.istore_n 2, 1) := by decide +kernel
theorem dX6_lookAt_2 : decode cX6_lookAt 2 = .ok (.iload_n 2, 1) := by decide +kernel
theorem dX6_lookAt_3 : decode cX6_lookAt 3 = .ok (.aload_n 0, 1) := by decide +kernel
theorem dX6_lookAt_4 : decode cX6_lookAt 4 = .ok (.getfield 59, 3) := by decide +kernel
theorem dX6_lookAt_7 : decode cX6_lookAt 7 = .ok (.if_icmp .ge 35, 3) := by decide +kernel
theorem dX6_lookAt_10 : decode cX6_lookAt 10 = .ok (.aload_n 0, 1) := by decide +kernel
theorem dX6_lookAt_11 : decode cX6_lookAt 11 = .ok (.getfield 34, 3) := by decide +kernel
theorem dX6_lookAt_14 : decode cX6_lookAt 14 = .ok (.getfield 66, 3) := by decide +kernel
theorem dX6_lookAt_17 : decode cX6_lookAt 17 = .ok (.aload_n 0, 1) := by decide +kernel
theorem dX6_lookAt_18 : decode cX6_lookAt 18 = .ok (.getfield 21, 3) := by decide +kernel
theorem dX6_lookAt_21 : decode cX6_lookAt 21 = .ok (.iload_n 2, 1) := by decide +kernel
theorem dX6_lookAt_22 : decode cX6_lookAt 22 = .ok (.iaload, 1) := by decide +kernel
theorem dX6_lookAt_23 : decode cX6_lookAt 23 = .ok (.iload_n 1, 1) := by decide +kernel
theorem dX6_lookAt_24 : decode cX6_lookAt 24 = .ok (.aload_n 0, 1) := by decide +kernel
theorem dX6_lookAt_25 : decode cX6_lookAt 25 = .ok (.getfield 59, 3) := by decide +kernel
theorem dX6_lookAt_28 : decode cX6_lookAt 28 = .ok (.iconst 1, 1) := by decide +kernel
theorem dX6_lookAt_29 : decode cX6_lookAt 29 = .ok (.isub, 1) := by decide +kernel
theorem dX6_lookAt_30 : decode cX6_lookAt 30 = .ok (.iload_n 2, 1) := by decide +kernel
theorem dX6_lookAt_31 : decode cX6_lookAt 31 = .ok (.isub, 1) := by decide +kernel
theorem dX6_lookAt_32 : decode cX6_lookAt 32 = .ok (.ishr, 1) := by decide +kernel
theorem dX6_lookAt_33 : decode cX6_lookAt 33 = .ok (.iconst 1, 1) := by decide +kernel
theorem dX6_lookAt_34 : decode cX6_lookAt 34 = .ok (.iand, 1) := by decide +kernel
theorem dX6_lookAt_35 : decode cX6_lookAt 35 = .ok (.iastore, 1) := by decide +kernel
theorem dX6_lookAt_36 : decode cX6_lookAt 36 = .ok (.iinc 2 1, 3) := by decide +kernel
theorem dX6_lookAt_39 : decode cX6_lookAt 39 = .ok (.goto (-37), 3) := by decide +kernel
theorem dX6_lookAt_42 : decode cX6_lookAt 42 = .ok (.aload_n 0, 1) := by decide +kernel
theorem dX6_lookAt_43 : decode cX6_lookAt 43 = .ok (.getfield 41, 3) := by decide +kernel
theorem dX6_lookAt_46 : decode cX6_lookAt 46 = .ok (.aload_n 0, 1) := by decide +kernel
theorem dX6_lookAt_47 : decode cX6_lookAt 47 = .ok (.getfield 34, 3) := by decide +kernel
theorem dX6_lookAt_50 : decode cX6_lookAt 50 = .ok (.aload_n 0, 1) := by decide +kernel
theorem dX6_lookAt_51 : decode cX6_lookAt 51 = .ok (.getfield 48, 3) := by decide +kernel
theorem dX6_lookAt_54 : decode cX6_lookAt 54 = .ok (.getfield 82, 3) := by decide +kernel
theorem dX6_lookAt_57 : decode cX6_lookAt 57 = .ok (.invokevirtual 85, 3) := by decide +kernel
theorem dX6_lookAt_60 : decode cX6_lookAt 60 = .ok (.return_, 1) := by decide +kernel
theorem dX6_growPays_0 : decode cX6_growPays 0 = .ok (.aload_n 0, 1) := by decide +kernel
theorem dX6_growPays_1 : decode cX6_growPays 1 = .ok (.aload_n 1, 1) := by decide +kernel
theorem dX6_growPays_2 : decode cX6_growPays 2 = .ok (.aload_n 2, 1) := by decide +kernel
theorem dX6_growPays_3 : decode cX6_growPays 3 = .ok (.invokevirtual 89, 3) := by decide +kernel
theorem dX6_growPays_6 : decode cX6_growPays 6 = .ok (.iconst 0, 1) := by decide +kernel
theorem dX6_growPays_7 : decode cX6_growPays 7 = .ok (.istore_n 3, 1) := by decide +kernel
theorem dX6_growPays_8 : decode cX6_growPays 8 = .ok (.iload_n 3, 1) := by decide +kernel
theorem dX6_growPays_9 : decode cX6_growPays 9 = .ok (.iconst 1, 1) := by decide +kernel
theorem dX6_growPays_10 : decode cX6_growPays 10 = .ok (.aload_n 0, 1) := by decide +kernel
theorem dX6_growPays_11 : decode cX6_growPays 11 = .ok (.getfield 59, 3) := by decide +kernel
theorem dX6_growPays_14 : decode cX6_growPays 14 = .ok (.ishl, 1) := by decide +kernel
theorem dX6_growPays_15 : decode cX6_growPays 15 = .ok (.if_icmp .ge 37, 3) := by decide +kernel
theorem dX6_growPays_18 : decode cX6_growPays 18 = .ok (.aload_n 0, 1) := by decide +kernel
theorem dX6_growPays_19 : decode cX6_growPays 19 = .ok (.iload_n 3, 1) := by decide +kernel
theorem dX6_growPays_20 : decode cX6_growPays 20 = .ok (.invokevirtual 93, 3) := by decide +kernel
theorem dX6_growPays_23 : decode cX6_growPays 23 = .ok (.aload_n 0, 1) := by decide +kernel
theorem dX6_growPays_24 : decode cX6_growPays 24 = .ok (.getfield 41, 3) := by decide +kernel
theorem dX6_growPays_27 : decode cX6_growPays 27 = .ok (.aload_n 0, 1) := by decide +kernel
theorem dX6_growPays_28 : decode cX6_growPays 28 = .ok (.getfield 48, 3) := by decide +kernel
theorem dX6_growPays_31 : decode cX6_growPays 31 = .ok (.aload_n 0, 1) := by decide +kernel
theorem dX6_growPays_32 : decode cX6_growPays 32 = .ok (.getfield 34, 3) := by decide +kernel
theorem dX6_growPays_35 : decode cX6_growPays 35 = .ok (.aload_n 0, 1) := by decide +kernel
theorem dX6_growPays_36 : decode cX6_growPays 36 = .ok (.getfield 9, 3) := by decide +kernel
theorem dX6_growPays_39 : decode cX6_growPays 39 = .ok (.iload_n 3, 1) := by decide +kernel
theorem dX6_growPays_40 : decode cX6_growPays 40 = .ok (.bipush 6, 2) := by decide +kernel
theorem dX6_growPays_42 : decode cX6_growPays 42 = .ok (.imul, 1) := by decide +kernel
theorem dX6_growPays_43 : decode cX6_growPays 43 = .ok (.invokevirtual 97, 3) := by decide +kernel
theorem dX6_growPays_46 : decode cX6_growPays 46 = .ok (.iinc 3 1, 3) := by decide +kernel
theorem dX6_growPays_49 : decode cX6_growPays 49 = .ok (.goto (-41), 3) := by decide +kernel
theorem dX6_growPays_52 : decode cX6_growPays 52 = .ok (.return_, 1) := by decide +kernel
theorem dX6_growPlace_0 : decode cX6_growPlace 0 = .ok (.aload_n 0, 1) := by decide +kernel
theorem dX6_growPlace_1 : decode cX6_growPlace 1 = .ok (.aload_n 1, 1) := by decide +kernel
theorem dX6_growPlace_2 : decode cX6_growPlace 2 = .ok (.aload_n 2, 1) := by decide +kernel
theorem dX6_growPlace_3 : decode cX6_growPlace 3 = .ok (.invokevirtual 89, 3) := by decide +kernel
theorem dX6_growPlace_6 : decode cX6_growPlace 6 = .ok (.iconst 0, 1) := by decide +kernel
theorem dX6_growPlace_7 : decode cX6_growPlace 7 = .ok (.istore 5, 2) := by decide +kernel
theorem dX6_growPlace_9 : decode cX6_growPlace 9 = .ok (.iload 5, 2) := by decide +kernel
theorem dX6_growPlace_11 : decode cX6_growPlace 11 = .ok (.iconst 1, 1) := by decide +kernel
theorem dX6_growPlace_12 : decode cX6_growPlace 12 = .ok (.aload_n 0, 1) := by decide +kernel
theorem dX6_growPlace_13 : decode cX6_growPlace 13 = .ok (.getfield 59, 3) := by decide +kernel
theorem dX6_growPlace_16 : decode cX6_growPlace 16 = .ok (.ishl, 1) := by decide +kernel
theorem dX6_growPlace_17 : decode cX6_growPlace 17 = .ok (.if_icmp .ge 46, 3) := by decide +kernel
theorem dX6_growPlace_20 : decode cX6_growPlace 20 = .ok (.aload_n 0, 1) := by decide +kernel
theorem dX6_growPlace_21 : decode cX6_growPlace 21 = .ok (.iload 5, 2) := by decide +kernel
theorem dX6_growPlace_23 : decode cX6_growPlace 23 = .ok (.invokevirtual 93, 3) := by decide +kernel
theorem dX6_growPlace_26 : decode cX6_growPlace 26 = .ok (.aload_n 0, 1) := by decide +kernel
theorem dX6_growPlace_27 : decode cX6_growPlace 27 = .ok (.getfield 9, 3) := by decide +kernel
theorem dX6_growPlace_30 : decode cX6_growPlace 30 = .ok (.iload 5, 2) := by decide +kernel
theorem dX6_growPlace_32 : decode cX6_growPlace 32 = .ok (.bipush 6, 2) := by decide +kernel
theorem dX6_growPlace_34 : decode cX6_growPlace 34 = .ok (.imul, 1) := by decide +kernel
theorem dX6_growPlace_35 : decode cX6_growPlace 35 = .ok (.iload_n 3, 1) := by decide +kernel
theorem dX6_growPlace_36 : decode cX6_growPlace 36 = .ok (.iadd, 1) := by decide +kernel
theorem dX6_growPlace_37 : decode cX6_growPlace 37 = .ok (.aload_n 0, 1) := by decide +kernel
theorem dX6_growPlace_38 : decode cX6_growPlace 38 = .ok (.getfield 41, 3) := by decide +kernel
theorem dX6_growPlace_41 : decode cX6_growPlace 41 = .ok (.getfield 101, 3) := by decide +kernel
theorem dX6_growPlace_44 : decode cX6_growPlace 44 = .ok (.iload_n 3, 1) := by decide +kernel
theorem dX6_growPlace_45 : decode cX6_growPlace 45 = .ok (.iaload, 1) := by decide +kernel
theorem dX6_growPlace_46 : decode cX6_growPlace 46 = .ok (.iload 4, 2) := by decide +kernel
theorem dX6_growPlace_48 : decode cX6_growPlace 48 = .ok (.if_icmp .ne 7, 3) := by decide +kernel
theorem dX6_growPlace_51 : decode cX6_growPlace 51 = .ok (.lconst 1, 1) := by decide +kernel
theorem dX6_growPlace_52 : decode cX6_growPlace 52 = .ok (.goto 4, 3) := by decide +kernel
theorem dX6_growPlace_55 : decode cX6_growPlace 55 = .ok (.lconst 0, 1) := by decide +kernel
theorem dX6_growPlace_56 : decode cX6_growPlace 56 = .ok (.lastore, 1) := by decide +kernel
theorem dX6_growPlace_57 : decode cX6_growPlace 57 = .ok (.iinc 5 1, 3) := by decide +kernel
theorem dX6_growPlace_60 : decode cX6_growPlace 60 = .ok (.goto (-51), 3) := by decide +kernel
theorem dX6_growPlace_63 : decode cX6_growPlace 63 = .ok (.return_, 1) := by decide +kernel
theorem dX6_reaches_0 : decode cX6_reaches 0 = .ok (.aload_n 0, 1) := by decide +kernel
theorem dX6_reaches_1 : decode cX6_reaches 1 = .ok (.aload_n 1, 1) := by decide +kernel
theorem dX6_reaches_2 : decode cX6_reaches 2 = .ok (.aload_n 2, 1) := by decide +kernel
theorem dX6_reaches_3 : decode cX6_reaches 3 = .ok (.invokevirtual 89, 3) := by decide +kernel
theorem dX6_reaches_6 : decode cX6_reaches 6 = .ok (.iconst 0, 1) := by decide +kernel
theorem dX6_reaches_7 : decode cX6_reaches 7 = .ok (.istore 5, 2) := by decide +kernel
theorem dX6_reaches_9 : decode cX6_reaches 9 = .ok (.iload 5, 2) := by decide +kernel
theorem dX6_reaches_11 : decode cX6_reaches 11 = .ok (.iconst 1, 1) := by decide +kernel
theorem dX6_reaches_12 : decode cX6_reaches 12 = .ok (.aload_n 0, 1) := by decide +kernel
theorem dX6_reaches_13 : decode cX6_reaches 13 = .ok (.getfield 59, 3) := by decide +kernel
theorem dX6_reaches_16 : decode cX6_reaches 16 = .ok (.ishl, 1) := by decide +kernel
theorem dX6_reaches_17 : decode cX6_reaches 17 = .ok (.if_icmp .ge 39, 3) := by decide +kernel
theorem dX6_reaches_20 : decode cX6_reaches 20 = .ok (.aload_n 0, 1) := by decide +kernel
theorem dX6_reaches_21 : decode cX6_reaches 21 = .ok (.iload 5, 2) := by decide +kernel
theorem dX6_reaches_23 : decode cX6_reaches 23 = .ok (.invokevirtual 93, 3) := by decide +kernel
theorem dX6_reaches_26 : decode cX6_reaches 26 = .ok (.aload_n 0, 1) := by decide +kernel
theorem dX6_reaches_27 : decode cX6_reaches 27 = .ok (.getfield 41, 3) := by decide +kernel
theorem dX6_reaches_30 : decode cX6_reaches 30 = .ok (.getfield 101, 3) := by decide +kernel
theorem dX6_reaches_33 : decode cX6_reaches 33 = .ok (.iload_n 3, 1) := by decide +kernel
theorem dX6_reaches_34 : decode cX6_reaches 34 = .ok (.iaload, 1) := by decide +kernel
theorem dX6_reaches_35 : decode cX6_reaches 35 = .ok (.iload 4, 2) := by decide +kernel
theorem dX6_reaches_37 : decode cX6_reaches 37 = .ok (.if_icmp .gt 13, 3) := by decide +kernel
theorem dX6_reaches_40 : decode cX6_reaches 40 = .ok (.aload_n 0, 1) := by decide +kernel
theorem dX6_reaches_41 : decode cX6_reaches 41 = .ok (.iload_n 3, 1) := by decide +kernel
theorem dX6_reaches_42 : decode cX6_reaches 42 = .ok (.invokevirtual 104, 3) := by decide +kernel
theorem dX6_reaches_45 : decode cX6_reaches 45 = .ok (.ifCond .eq 5, 3) := by decide +kernel
theorem dX6_reaches_48 : decode cX6_reaches 48 = .ok (.iconst 1, 1) := by decide +kernel
theorem dX6_reaches_49 : decode cX6_reaches 49 = .ok (.ireturn, 1) := by decide +kernel
theorem dX6_reaches_50 : decode cX6_reaches 50 = .ok (.iinc 5 1, 3) := by decide +kernel
theorem dX6_reaches_53 : decode cX6_reaches 53 = .ok (.goto (-44), 3) := by decide +kernel
theorem dX6_reaches_56 : decode cX6_reaches 56 = .ok (.iconst 0, 1) := by decide +kernel
theorem dX6_reaches_57 : decode cX6_reaches 57 = .ok (.ireturn, 1) := by decide +kernel
theorem dX6_winsAllOpen_0 : decode cX6_winsAllOpen 0 = .ok (.iconst 0, 1) := by decide +kernel
theorem dX6_winsAllOpen_1 : decode cX6_winsAllOpen 1 = .ok (.istore_n 2, 1) := by decide +kernel
theorem dX6_winsAllOpen_2 : decode cX6_winsAllOpen 2 = .ok (.iload_n 2, 1) := by decide +kernel
theorem dX6_winsAllOpen_3 : decode cX6_winsAllOpen 3 = .ok (.aload_n 0, 1) := by decide +kernel
theorem dX6_winsAllOpen_4 : decode cX6_winsAllOpen 4 = .ok (.getfield 59, 3) := by decide +kernel
theorem dX6_winsAllOpen_7 : decode cX6_winsAllOpen 7 = .ok (.if_icmp .ge 45, 3) := by decide +kernel
theorem dX6_winsAllOpen_10 : decode cX6_winsAllOpen 10 = .ok (.aload_n 0, 1) := by decide +kernel
theorem dX6_winsAllOpen_11 : decode cX6_winsAllOpen 11 = .ok (.getfield 34, 3) := by decide +kernel
theorem dX6_winsAllOpen_14 : decode cX6_winsAllOpen 14 = .ok (.aload_n 0, 1) := by decide +kernel
theorem dX6_winsAllOpen_15 : decode cX6_winsAllOpen 15 = .ok (.getfield 21, 3) := by decide +kernel
theorem dX6_winsAllOpen_18 : decode cX6_winsAllOpen 18 = .ok (.iload_n 2, 1) := by decide +kernel
theorem dX6_winsAllOpen_19 : decode cX6_winsAllOpen 19 = .ok (.iaload, 1) := by decide +kernel
theorem dX6_winsAllOpen_20 : decode cX6_winsAllOpen 20 = .ok (.iload_n 1, 1) := by decide +kernel
theorem dX6_winsAllOpen_21 : decode cX6_winsAllOpen 21 = .ok (.invokevirtual 108, 3) := by decide +kernel
theorem dX6_winsAllOpen_24 : decode cX6_winsAllOpen 24 = .ok (.ifCond .eq 22, 3) := by decide +kernel
theorem dX6_winsAllOpen_27 : decode cX6_winsAllOpen 27 = .ok (.aload_n 0, 1) := by decide +kernel
theorem dX6_winsAllOpen_28 : decode cX6_winsAllOpen 28 = .ok (.getfield 34, 3) := by decide +kernel
theorem dX6_winsAllOpen_31 : decode cX6_winsAllOpen 31 = .ok (.aload_n 0, 1) := by decide +kernel
theorem dX6_winsAllOpen_32 : decode cX6_winsAllOpen 32 = .ok (.getfield 21, 3) := by decide +kernel
theorem dX6_winsAllOpen_35 : decode cX6_winsAllOpen 35 = .ok (.iload_n 2, 1) := by decide +kernel
theorem dX6_winsAllOpen_36 : decode cX6_winsAllOpen 36 = .ok (.iaload, 1) := by decide +kernel
theorem dX6_winsAllOpen_37 : decode cX6_winsAllOpen 37 = .ok (.invokevirtual 112, 3) := by decide +kernel
theorem dX6_winsAllOpen_40 : decode cX6_winsAllOpen 40 = .ok (.iload_n 1, 1) := by decide +kernel
theorem dX6_winsAllOpen_41 : decode cX6_winsAllOpen 41 = .ok (.if_icmp .eq 5, 3) := by decide +kernel
theorem dX6_winsAllOpen_44 : decode cX6_winsAllOpen 44 = .ok (.iconst 0, 1) := by decide +kernel
theorem dX6_winsAllOpen_45 : decode cX6_winsAllOpen 45 = .ok (.ireturn, 1) := by decide +kernel
theorem dX6_winsAllOpen_46 : decode cX6_winsAllOpen 46 = .ok (.iinc 2 1, 3) := by decide +kernel
theorem dX6_winsAllOpen_49 : decode cX6_winsAllOpen 49 = .ok (.goto (-47), 3) := by decide +kernel
theorem dX6_winsAllOpen_52 : decode cX6_winsAllOpen 52 = .ok (.iconst 1, 1) := by decide +kernel
theorem dX6_winsAllOpen_53 : decode cX6_winsAllOpen 53 = .ok (.ireturn, 1) := by decide +kernel
theorem dX6_allChances_0 : decode cX6_allChances 0 = .ok (.lconst 1, 1) := by decide +kernel
theorem dX6_allChances_1 : decode cX6_allChances 1 = .ok (.iconst 4, 1) := by decide +kernel
theorem dX6_allChances_2 : decode cX6_allChances 2 = .ok (.aload_n 0, 1) := by decide +kernel
theorem dX6_allChances_3 : decode cX6_allChances 3 = .ok (.getfield 59, 3) := by decide +kernel
theorem dX6_allChances_6 : decode cX6_allChances 6 = .ok (.imul, 1) := by decide +kernel
theorem dX6_allChances_7 : decode cX6_allChances 7 = .ok (.lshl, 1) := by decide +kernel
theorem dX6_allChances_8 : decode cX6_allChances 8 = .ok (.lreturn, 1) := by decide +kernel
theorem dX6_scale_0 : decode cX6_scale 0 = .ok (.aload_n 0, 1) := by decide +kernel
theorem dX6_scale_1 : decode cX6_scale 1 = .ok (.invokevirtual 116, 3) := by decide +kernel
theorem dX6_scale_4 : decode cX6_scale 4 = .ok (.aload_n 0, 1) := by decide +kernel
theorem dX6_scale_5 : decode cX6_scale 5 = .ok (.getfield 48, 3) := by decide +kernel
theorem dX6_scale_8 : decode cX6_scale 8 = .ok (.invokevirtual 120, 3) := by decide +kernel
theorem dX6_scale_11 : decode cX6_scale 11 = .ok (.i2l, 1) := by decide +kernel
theorem dX6_scale_12 : decode cX6_scale 12 = .ok (.lmul, 1) := by decide +kernel
theorem dX6_scale_13 : decode cX6_scale 13 = .ok (.lreturn, 1) := by decide +kernel
theorem dX6_mixed_0 : decode cX6_mixed 0 = .ok (.iload_n 0, 1) := by decide +kernel
theorem dX6_mixed_1 : decode cX6_mixed 1 = .ok (.i2l, 1) := by decide +kernel
theorem dX6_mixed_2 : decode cX6_mixed 2 = .ok (.lload_n 1, 1) := by decide +kernel
theorem dX6_mixed_3 : decode cX6_mixed 3 = .ok (.lmul, 1) := by decide +kernel
theorem dX6_mixed_4 : decode cX6_mixed 4 = .ok (.bipush 16, 2) := by decide +kernel
theorem dX6_mixed_6 : decode cX6_mixed 6 = .ok (.iload_n 0, 1) := by decide +kernel
theorem dX6_mixed_7 : decode cX6_mixed 7 = .ok (.isub, 1) := by decide +kernel
theorem dX6_mixed_8 : decode cX6_mixed 8 = .ok (.i2l, 1) := by decide +kernel
theorem dX6_mixed_9 : decode cX6_mixed 9 = .ok (.lload_n 3, 1) := by decide +kernel
theorem dX6_mixed_10 : decode cX6_mixed 10 = .ok (.lmul, 1) := by decide +kernel
theorem dX6_mixed_11 : decode cX6_mixed 11 = .ok (.ladd, 1) := by decide +kernel
theorem dX6_mixed_12 : decode cX6_mixed 12 = .ok (.lreturn, 1) := by decide +kernel
theorem dX6_expected_0 : decode cX6_expected 0 = .ok (.aload_n 0, 1) := by decide +kernel
theorem dX6_expected_1 : decode cX6_expected 1 = .ok (.iload_n 1, 1) := by decide +kernel
theorem dX6_expected_2 : decode cX6_expected 2 = .ok (.bipush (-4), 2) := by decide +kernel
theorem dX6_expected_4 : decode cX6_expected 4 = .ok (.iconst 2, 1) := by decide +kernel
theorem dX6_expected_5 : decode cX6_expected 5 = .ok (.invokevirtual 124, 3) := by decide +kernel
theorem dX6_expected_8 : decode cX6_expected 8 = .ok (.lreturn, 1) := by decide +kernel
theorem dX6_expectedIf_0 : decode cX6_expectedIf 0 = .ok (.aload_n 0, 1) := by decide +kernel
theorem dX6_expectedIf_1 : decode cX6_expectedIf 1 = .ok (.getfield 34, 3) := by decide +kernel
theorem dX6_expectedIf_4 : decode cX6_expectedIf 4 = .ok (.getfield 72, 3) := by decide +kernel
theorem dX6_expectedIf_7 : decode cX6_expectedIf 7 = .ok (.iload_n 2, 1) := by decide +kernel
theorem dX6_expectedIf_8 : decode cX6_expectedIf 8 = .ok (.iaload, 1) := by decide +kernel
theorem dX6_expectedIf_9 : decode cX6_expectedIf 9 = .ok (.iload_n 1, 1) := by decide +kernel
theorem dX6_expectedIf_10 : decode cX6_expectedIf 10 = .ok (.if_icmp .ne 7, 3) := by decide +kernel
theorem dX6_expectedIf_13 : decode cX6_expectedIf 13 = .ok (.iconst 1, 1) := by decide +kernel
theorem dX6_expectedIf_14 : decode cX6_expectedIf 14 = .ok (.goto 4, 3) := by decide +kernel
theorem dX6_expectedIf_17 : decode cX6_expectedIf 17 = .ok (.iconst 0, 1) := by decide +kernel
theorem dX6_expectedIf_18 : decode cX6_expectedIf 18 = .ok (.iload_n 3, 1) := by decide +kernel
theorem dX6_expectedIf_19 : decode cX6_expectedIf 19 = .ok (.if_icmp .ne 7, 3) := by decide +kernel
theorem dX6_expectedIf_22 : decode cX6_expectedIf 22 = .ok (.iconst 1, 1) := by decide +kernel
theorem dX6_expectedIf_23 : decode cX6_expectedIf 23 = .ok (.goto 4, 3) := by decide +kernel
theorem dX6_expectedIf_26 : decode cX6_expectedIf 26 = .ok (.iconst 0, 1) := by decide +kernel
theorem dX6_expectedIf_27 : decode cX6_expectedIf 27 = .ok (.istore 4, 2) := by decide +kernel
theorem dX6_expectedIf_29 : decode cX6_expectedIf 29 = .ok (.aload_n 0, 1) := by decide +kernel
theorem dX6_expectedIf_30 : decode cX6_expectedIf 30 = .ok (.iload_n 1, 1) := by decide +kernel
theorem dX6_expectedIf_31 : decode cX6_expectedIf 31 = .ok (.iload_n 2, 1) := by decide +kernel
theorem dX6_expectedIf_32 : decode cX6_expectedIf 32 = .ok (.iload 4, 2) := by decide +kernel
theorem dX6_expectedIf_34 : decode cX6_expectedIf 34 = .ok (.ifCond .eq 7, 3) := by decide +kernel
theorem dX6_expectedIf_37 : decode cX6_expectedIf 37 = .ok (.iconst 0, 1) := by decide +kernel
theorem dX6_expectedIf_38 : decode cX6_expectedIf 38 = .ok (.goto 4, 3) := by decide +kernel
theorem dX6_expectedIf_41 : decode cX6_expectedIf 41 = .ok (.iconst 1, 1) := by decide +kernel
theorem dX6_expectedIf_42 : decode cX6_expectedIf 42 = .ok (.invokevirtual 124, 3) := by decide +kernel
theorem dX6_expectedIf_45 : decode cX6_expectedIf 45 = .ok (.lreturn, 1) := by decide +kernel
theorem dX6_fold_0 : decode cX6_fold 0 = .ok (.iconst 0, 1) := by decide +kernel
theorem dX6_fold_1 : decode cX6_fold 1 = .ok (.istore 4, 2) := by decide +kernel
theorem dX6_fold_3 : decode cX6_fold 3 = .ok (.iload 4, 2) := by decide +kernel
theorem dX6_fold_5 : decode cX6_fold 5 = .ok (.iconst 1, 1) := by decide +kernel
theorem dX6_fold_6 : decode cX6_fold 6 = .ok (.aload_n 0, 1) := by decide +kernel
theorem dX6_fold_7 : decode cX6_fold 7 = .ok (.getfield 59, 3) := by decide +kernel
theorem dX6_fold_10 : decode cX6_fold 10 = .ok (.ishl, 1) := by decide +kernel
theorem dX6_fold_11 : decode cX6_fold 11 = .ok (.if_icmp .ge 28, 3) := by decide +kernel
theorem dX6_fold_14 : decode cX6_fold 14 = .ok (.aload_n 0, 1) := by decide +kernel
theorem dX6_fold_15 : decode cX6_fold 15 = .ok (.getfield 15, 3) := by decide +kernel
theorem dX6_fold_18 : decode cX6_fold 18 = .ok (.iload 4, 2) := by decide +kernel
theorem dX6_fold_20 : decode cX6_fold 20 = .ok (.aload_n 0, 1) := by decide +kernel
theorem dX6_fold_21 : decode cX6_fold 21 = .ok (.getfield 9, 3) := by decide +kernel
theorem dX6_fold_24 : decode cX6_fold 24 = .ok (.iload 4, 2) := by decide +kernel
theorem dX6_fold_26 : decode cX6_fold 26 = .ok (.bipush 6, 2) := by decide +kernel
theorem dX6_fold_28 : decode cX6_fold 28 = .ok (.imul, 1) := by decide +kernel
theorem dX6_fold_29 : decode cX6_fold 29 = .ok (.iload_n 1, 1) := by decide +kernel
theorem dX6_fold_30 : decode cX6_fold 30 = .ok (.iadd, 1) := by decide +kernel
theorem dX6_fold_31 : decode cX6_fold 31 = .ok (.laload, 1) := by decide +kernel
theorem dX6_fold_32 : decode cX6_fold 32 = .ok (.lastore, 1) := by decide +kernel
theorem dX6_fold_33 : decode cX6_fold 33 = .ok (.iinc 4 1, 3) := by decide +kernel
theorem dX6_fold_36 : decode cX6_fold 36 = .ok (.goto (-33), 3) := by decide +kernel
theorem dX6_fold_39 : decode cX6_fold 39 = .ok (.aload_n 0, 1) := by decide +kernel
theorem dX6_fold_40 : decode cX6_fold 40 = .ok (.getfield 59, 3) := by decide +kernel
theorem dX6_fold_43 : decode cX6_fold 43 = .ok (.iconst 1, 1) := by decide +kernel
theorem dX6_fold_44 : decode cX6_fold 44 = .ok (.isub, 1) := by decide +kernel
theorem dX6_fold_45 : decode cX6_fold 45 = .ok (.istore 4, 2) := by decide +kernel
theorem dX6_fold_47 : decode cX6_fold 47 = .ok (.iload 4, 2) := by decide +kernel
theorem dX6_fold_49 : decode cX6_fold 49 = .ok (.ifCond .lt 91, 3) := by decide +kernel
theorem dX6_fold_52 : decode cX6_fold 52 = .ok (.aload_n 0, 1) := by decide +kernel
theorem dX6_fold_53 : decode cX6_fold 53 = .ok (.getfield 25, 3) := by decide +kernel
theorem dX6_fold_56 : decode cX6_fold 56 = .ok (.iload 4, 2) := by decide +kernel
theorem dX6_fold_58 : decode cX6_fold 58 = .ok (.iaload, 1) := by decide +kernel
theorem dX6_fold_59 : decode cX6_fold 59 = .ok (.istore 5, 2) := by decide +kernel
theorem dX6_fold_61 : decode cX6_fold 61 = .ok (.aload_n 0, 1) := by decide +kernel
theorem dX6_fold_62 : decode cX6_fold 62 = .ok (.getfield 21, 3) := by decide +kernel
theorem dX6_fold_65 : decode cX6_fold 65 = .ok (.iload 4, 2) := by decide +kernel
theorem dX6_fold_67 : decode cX6_fold 67 = .ok (.iaload, 1) := by decide +kernel
theorem dX6_fold_68 : decode cX6_fold 68 = .ok (.iload_n 2, 1) := by decide +kernel
theorem dX6_fold_69 : decode cX6_fold 69 = .ok (.if_icmp .ne 15, 3) := by decide +kernel
theorem dX6_fold_72 : decode cX6_fold 72 = .ok (.iload_n 3, 1) := by decide +kernel
theorem dX6_fold_73 : decode cX6_fold 73 = .ok (.ifCond .ne 8, 3) := by decide +kernel
theorem dX6_fold_76 : decode cX6_fold 76 = .ok (.bipush 16, 2) := by decide +kernel
theorem dX6_fold_78 : decode cX6_fold 78 = .ok (.goto 4, 3) := by decide +kernel
theorem dX6_fold_81 : decode cX6_fold 81 = .ok (.iconst 0, 1) := by decide +kernel
theorem dX6_fold_82 : decode cX6_fold 82 = .ok (.istore 5, 2) := by decide +kernel
theorem dX6_fold_84 : decode cX6_fold 84 = .ok (.iconst 0, 1) := by decide +kernel
theorem dX6_fold_85 : decode cX6_fold 85 = .ok (.istore 6, 2) := by decide +kernel
theorem dX6_fold_87 : decode cX6_fold 87 = .ok (.iload 6, 2) := by decide +kernel
theorem dX6_fold_89 : decode cX6_fold 89 = .ok (.iconst 1, 1) := by decide +kernel
theorem dX6_fold_90 : decode cX6_fold 90 = .ok (.iload 4, 2) := by decide +kernel
theorem dX6_fold_92 : decode cX6_fold 92 = .ok (.ishl, 1) := by decide +kernel
theorem dX6_fold_93 : decode cX6_fold 93 = .ok (.if_icmp .ge 41, 3) := by decide +kernel
theorem dX6_fold_96 : decode cX6_fold 96 = .ok (.aload_n 0, 1) := by decide +kernel
theorem dX6_fold_97 : decode cX6_fold 97 = .ok (.getfield 15, 3) := by decide +kernel
theorem dX6_fold_100 : decode cX6_fold 100 = .ok (.iload 6, 2) := by decide +kernel
theorem dX6_fold_102 : decode cX6_fold 102 = .ok (.iload 5, 2) := by decide +kernel
theorem dX6_fold_104 : decode cX6_fold 104 = .ok (.aload_n 0, 1) := by decide +kernel
theorem dX6_fold_105 : decode cX6_fold 105 = .ok (.getfield 15, 3) := by decide +kernel
theorem dX6_fold_108 : decode cX6_fold 108 = .ok (.iconst 2, 1) := by decide +kernel
theorem dX6_fold_109 : decode cX6_fold 109 = .ok (.iload 6, 2) := by decide +kernel
theorem dX6_fold_111 : decode cX6_fold 111 = .ok (.imul, 1) := by decide +kernel
theorem dX6_fold_112 : decode cX6_fold 112 = .ok (.laload, 1) := by decide +kernel
theorem dX6_fold_113 : decode cX6_fold 113 = .ok (.aload_n 0, 1) := by decide +kernel
theorem dX6_fold_114 : decode cX6_fold 114 = .ok (.getfield 15, 3) := by decide +kernel
theorem dX6_fold_117 : decode cX6_fold 117 = .ok (.iconst 2, 1) := by decide +kernel
theorem dX6_fold_118 : decode cX6_fold 118 = .ok (.iload 6, 2) := by decide +kernel
theorem dX6_fold_120 : decode cX6_fold 120 = .ok (.imul, 1) := by decide +kernel
theorem dX6_fold_121 : decode cX6_fold 121 = .ok (.iconst 1, 1) := by decide +kernel
theorem dX6_fold_122 : decode cX6_fold 122 = .ok (.iadd, 1) := by decide +kernel
theorem dX6_fold_123 : decode cX6_fold 123 = .ok (.laload, 1) := by decide +kernel
theorem dX6_fold_124 : decode cX6_fold 124 = .ok (.invokestatic 128, 3) := by decide +kernel
theorem dX6_fold_127 : decode cX6_fold 127 = .ok (.lastore, 1) := by decide +kernel
theorem dX6_fold_128 : decode cX6_fold 128 = .ok (.iinc 6 1, 3) := by decide +kernel
theorem dX6_fold_131 : decode cX6_fold 131 = .ok (.goto (-44), 3) := by decide +kernel
theorem dX6_fold_134 : decode cX6_fold 134 = .ok (.iinc 4 (-1), 3) := by decide +kernel
theorem dX6_fold_137 : decode cX6_fold 137 = .ok (.goto (-90), 3) := by decide +kernel
theorem dX6_fold_140 : decode cX6_fold 140 = .ok (.aload_n 0, 1) := by decide +kernel
theorem dX6_fold_141 : decode cX6_fold 141 = .ok (.getfield 15, 3) := by decide +kernel
theorem dX6_fold_144 : decode cX6_fold 144 = .ok (.iconst 0, 1) := by decide +kernel
theorem dX6_fold_145 : decode cX6_fold 145 = .ok (.laload, 1) := by decide +kernel
theorem dX6_fold_146 : decode cX6_fold 146 = .ok (.lreturn, 1) := by decide +kernel
theorem dX6_wantsToLose_0 : decode cX6_wantsToLose 0 = .ok (.aload_n 0, 1) := by decide +kernel
theorem dX6_wantsToLose_1 : decode cX6_wantsToLose 1 = .ok (.iload_n 1, 1) := by decide +kernel
theorem dX6_wantsToLose_2 : decode cX6_wantsToLose 2 = .ok (.iload_n 2, 1) := by decide +kernel
theorem dX6_wantsToLose_3 : decode cX6_wantsToLose 3 = .ok (.iconst 0, 1) := by decide +kernel
theorem dX6_wantsToLose_4 : decode cX6_wantsToLose 4 = .ok (.invokevirtual 132, 3) := by decide +kernel
theorem dX6_wantsToLose_7 : decode cX6_wantsToLose 7 = .ok (.aload_n 0, 1) := by decide +kernel
theorem dX6_wantsToLose_8 : decode cX6_wantsToLose 8 = .ok (.iload_n 1, 1) := by decide +kernel
theorem dX6_wantsToLose_9 : decode cX6_wantsToLose 9 = .ok (.iload_n 2, 1) := by decide +kernel
theorem dX6_wantsToLose_10 : decode cX6_wantsToLose 10 = .ok (.iconst 1, 1) := by decide +kernel
theorem dX6_wantsToLose_11 : decode cX6_wantsToLose 11 = .ok (.invokevirtual 132, 3) := by decide +kernel
theorem dX6_wantsToLose_14 : decode cX6_wantsToLose 14 = .ok (.lcmp, 1) := by decide +kernel
theorem dX6_wantsToLose_15 : decode cX6_wantsToLose 15 = .ok (.ifCond .le 7, 3) := by decide +kernel
theorem dX6_wantsToLose_18 : decode cX6_wantsToLose 18 = .ok (.iconst 1, 1) := by decide +kernel
theorem dX6_wantsToLose_19 : decode cX6_wantsToLose 19 = .ok (.goto 4, 3) := by decide +kernel
theorem dX6_wantsToLose_22 : decode cX6_wantsToLose 22 = .ok (.iconst 0, 1) := by decide +kernel
theorem dX6_wantsToLose_23 : decode cX6_wantsToLose 23 = .ok (.ireturn, 1) := by decide +kernel
theorem dX6_losers_0 : decode cX6_losers 0 = .ok (.aload_n 0, 1) := by decide +kernel
theorem dX6_losers_1 : decode cX6_losers 1 = .ok (.aload_n 0, 1) := by decide +kernel
theorem dX6_losers_2 : decode cX6_losers 2 = .ok (.getfield 34, 3) := by decide +kernel
theorem dX6_losers_5 : decode cX6_losers 5 = .ok (.getfield 72, 3) := by decide +kernel
theorem dX6_losers_8 : decode cX6_losers 8 = .ok (.iload_n 1, 1) := by decide +kernel
theorem dX6_losers_9 : decode cX6_losers 9 = .ok (.iaload, 1) := by decide +kernel
theorem dX6_losers_10 : decode cX6_losers 10 = .ok (.iload_n 1, 1) := by decide +kernel
theorem dX6_losers_11 : decode cX6_losers 11 = .ok (.invokevirtual 136, 3) := by decide +kernel
theorem dX6_losers_14 : decode cX6_losers 14 = .ok (.ifCond .eq 7, 3) := by decide +kernel
theorem dX6_losers_17 : decode cX6_losers 17 = .ok (.iconst 1, 1) := by decide +kernel
theorem dX6_losers_18 : decode cX6_losers 18 = .ok (.goto 4, 3) := by decide +kernel
theorem dX6_losers_21 : decode cX6_losers 21 = .ok (.iconst 0, 1) := by decide +kernel
theorem dX6_losers_22 : decode cX6_losers 22 = .ok (.istore_n 2, 1) := by decide +kernel
theorem dX6_losers_23 : decode cX6_losers 23 = .ok (.aload_n 0, 1) := by decide +kernel
theorem dX6_losers_24 : decode cX6_losers 24 = .ok (.aload_n 0, 1) := by decide +kernel
theorem dX6_losers_25 : decode cX6_losers 25 = .ok (.getfield 34, 3) := by decide +kernel
theorem dX6_losers_28 : decode cX6_losers 28 = .ok (.getfield 75, 3) := by decide +kernel
theorem dX6_losers_31 : decode cX6_losers 31 = .ok (.iload_n 1, 1) := by decide +kernel
theorem dX6_losers_32 : decode cX6_losers 32 = .ok (.iaload, 1) := by decide +kernel
theorem dX6_losers_33 : decode cX6_losers 33 = .ok (.iload_n 1, 1) := by decide +kernel
theorem dX6_losers_34 : decode cX6_losers 34 = .ok (.invokevirtual 136, 3) := by decide +kernel
theorem dX6_losers_37 : decode cX6_losers 37 = .ok (.ifCond .eq 7, 3) := by decide +kernel
theorem dX6_losers_40 : decode cX6_losers 40 = .ok (.iconst 2, 1) := by decide +kernel
theorem dX6_losers_41 : decode cX6_losers 41 = .ok (.goto 4, 3) := by decide +kernel
theorem dX6_losers_44 : decode cX6_losers 44 = .ok (.iconst 0, 1) := by decide +kernel
theorem dX6_losers_45 : decode cX6_losers 45 = .ok (.istore_n 3, 1) := by decide +kernel
theorem dX6_losers_46 : decode cX6_losers 46 = .ok (.iload_n 2, 1) := by decide +kernel
theorem dX6_losers_47 : decode cX6_losers 47 = .ok (.iload_n 3, 1) := by decide +kernel
theorem dX6_losers_48 : decode cX6_losers 48 = .ok (.iadd, 1) := by decide +kernel
theorem dX6_losers_49 : decode cX6_losers 49 = .ok (.ireturn, 1) := by decide +kernel
theorem dX6_firstUnwanted_0 : decode cX6_firstUnwanted 0 = .ok (.iconst 0, 1) := by decide +kernel
theorem dX6_firstUnwanted_1 : decode cX6_firstUnwanted 1 = .ok (.istore_n 2, 1) := by decide +kernel
theorem dX6_firstUnwanted_2 : decode cX6_firstUnwanted 2 = .ok (.iload_n 2, 1) := by decide +kernel
theorem dX6_firstUnwanted_3 : decode cX6_firstUnwanted 3 = .ok (.aload_n 0, 1) := by decide +kernel
theorem dX6_firstUnwanted_4 : decode cX6_firstUnwanted 4 = .ok (.getfield 59, 3) := by decide +kernel
theorem dX6_firstUnwanted_7 : decode cX6_firstUnwanted 7 = .ok (.if_icmp .ge 47, 3) := by decide +kernel
theorem dX6_firstUnwanted_10 : decode cX6_firstUnwanted 10 = .ok (.aload_n 0, 1) := by decide +kernel
theorem dX6_firstUnwanted_11 : decode cX6_firstUnwanted 11 = .ok (.getfield 34, 3) := by decide +kernel
theorem dX6_firstUnwanted_14 : decode cX6_firstUnwanted 14 = .ok (.aload_n 0, 1) := by decide +kernel
theorem dX6_firstUnwanted_15 : decode cX6_firstUnwanted 15 = .ok (.getfield 21, 3) := by decide +kernel
theorem dX6_firstUnwanted_18 : decode cX6_firstUnwanted 18 = .ok (.iload_n 2, 1) := by decide +kernel
theorem dX6_firstUnwanted_19 : decode cX6_firstUnwanted 19 = .ok (.iaload, 1) := by decide +kernel
theorem dX6_firstUnwanted_20 : decode cX6_firstUnwanted 20 = .ok (.iload_n 1, 1) := by decide +kernel
theorem dX6_firstUnwanted_21 : decode cX6_firstUnwanted 21 = .ok (.invokevirtual 108, 3) := by decide +kernel
theorem dX6_firstUnwanted_24 : decode cX6_firstUnwanted 24 = .ok (.ifCond .eq 24, 3) := by decide +kernel
theorem dX6_firstUnwanted_27 : decode cX6_firstUnwanted 27 = .ok (.aload_n 0, 1) := by decide +kernel
theorem dX6_firstUnwanted_28 : decode cX6_firstUnwanted 28 = .ok (.iload_n 1, 1) := by decide +kernel
theorem dX6_firstUnwanted_29 : decode cX6_firstUnwanted 29 = .ok (.aload_n 0, 1) := by decide +kernel
theorem dX6_firstUnwanted_30 : decode cX6_firstUnwanted 30 = .ok (.getfield 21, 3) := by decide +kernel
theorem dX6_firstUnwanted_33 : decode cX6_firstUnwanted 33 = .ok (.iload_n 2, 1) := by decide +kernel
theorem dX6_firstUnwanted_34 : decode cX6_firstUnwanted 34 = .ok (.iaload, 1) := by decide +kernel
theorem dX6_firstUnwanted_35 : decode cX6_firstUnwanted 35 = .ok (.invokevirtual 136, 3) := by decide +kernel
theorem dX6_firstUnwanted_38 : decode cX6_firstUnwanted 38 = .ok (.ifCond .eq 10, 3) := by decide +kernel
theorem dX6_firstUnwanted_41 : decode cX6_firstUnwanted 41 = .ok (.aload_n 0, 1) := by decide +kernel
theorem dX6_firstUnwanted_42 : decode cX6_firstUnwanted 42 = .ok (.getfield 21, 3) := by decide +kernel
theorem dX6_firstUnwanted_45 : decode cX6_firstUnwanted 45 = .ok (.iload_n 2, 1) := by decide +kernel
theorem dX6_firstUnwanted_46 : decode cX6_firstUnwanted 46 = .ok (.iaload, 1) := by decide +kernel
theorem dX6_firstUnwanted_47 : decode cX6_firstUnwanted 47 = .ok (.ireturn, 1) := by decide +kernel
theorem dX6_firstUnwanted_48 : decode cX6_firstUnwanted 48 = .ok (.iinc 2 1, 3) := by decide +kernel
theorem dX6_firstUnwanted_51 : decode cX6_firstUnwanted 51 = .ok (.goto (-49), 3) := by decide +kernel
theorem dX6_firstUnwanted_54 : decode cX6_firstUnwanted 54 = .ok (.bipush (-4), 2) := by decide +kernel
theorem dX6_firstUnwanted_56 : decode cX6_firstUnwanted 56 = .ok (.ireturn, 1) := by decide +kernel
theorem dX6_firstUnwantedByBoth_0 : decode cX6_firstUnwantedByBoth 0 = .ok (.iconst 0, 1) := by decide +kernel
theorem dX6_firstUnwantedByBoth_1 : decode cX6_firstUnwantedByBoth 1 = .ok (.istore_n 1, 1) := by decide +kernel
theorem dX6_firstUnwantedByBoth_2 : decode cX6_firstUnwantedByBoth 2 = .ok (.iload_n 1, 1) := by decide +kernel
theorem dX6_firstUnwantedByBoth_3 : decode cX6_firstUnwantedByBoth 3 = .ok (.aload_n 0, 1) := by decide +kernel
theorem dX6_firstUnwantedByBoth_4 : decode cX6_firstUnwantedByBoth 4 = .ok (.getfield 59, 3) := by decide +kernel
theorem dX6_firstUnwantedByBoth_7 : decode cX6_firstUnwantedByBoth 7 = .ok (.if_icmp .ge 30, 3) := by decide +kernel
theorem dX6_firstUnwantedByBoth_10 : decode cX6_firstUnwantedByBoth 10 = .ok (.aload_n 0, 1) := by decide +kernel
theorem dX6_firstUnwantedByBoth_11 : decode cX6_firstUnwantedByBoth 11 = .ok (.aload_n 0, 1) := by decide +kernel
theorem dX6_firstUnwantedByBoth_12 : decode cX6_firstUnwantedByBoth 12 = .ok (.getfield 21, 3) := by decide +kernel
theorem dX6_firstUnwantedByBoth_15 : decode cX6_firstUnwantedByBoth 15 = .ok (.iload_n 1, 1) := by decide +kernel
theorem dX6_firstUnwantedByBoth_16 : decode cX6_firstUnwantedByBoth 16 = .ok (.iaload, 1) := by decide +kernel
theorem dX6_firstUnwantedByBoth_17 : decode cX6_firstUnwantedByBoth 17 = .ok (.invokevirtual 139, 3) := by decide +kernel
theorem dX6_firstUnwantedByBoth_20 : decode cX6_firstUnwantedByBoth 20 = .ok (.iconst 3, 1) := by decide +kernel
theorem dX6_firstUnwantedByBoth_21 : decode cX6_firstUnwantedByBoth 21 = .ok (.if_icmp .ne 10, 3) := by decide +kernel
theorem dX6_firstUnwantedByBoth_24 : decode cX6_firstUnwantedByBoth 24 = .ok (.aload_n 0, 1) := by decide +kernel
theorem dX6_firstUnwantedByBoth_25 : decode cX6_firstUnwantedByBoth 25 = .ok (.getfield 21, 3) := by decide +kernel
theorem dX6_firstUnwantedByBoth_28 : decode cX6_firstUnwantedByBoth 28 = .ok (.iload_n 1, 1) := by decide +kernel
theorem dX6_firstUnwantedByBoth_29 : decode cX6_firstUnwantedByBoth 29 = .ok (.iaload, 1) := by decide +kernel
theorem dX6_firstUnwantedByBoth_30 : decode cX6_firstUnwantedByBoth 30 = .ok (.ireturn, 1) := by decide +kernel
theorem dX6_firstUnwantedByBoth_31 : decode cX6_firstUnwantedByBoth 31 = .ok (.iinc 1 1, 3) := by decide +kernel
theorem dX6_firstUnwantedByBoth_34 : decode cX6_firstUnwantedByBoth 34 = .ok (.goto (-32), 3) := by decide +kernel
theorem dX6_firstUnwantedByBoth_37 : decode cX6_firstUnwantedByBoth 37 = .ok (.bipush (-4), 2) := by decide +kernel
theorem dX6_firstUnwantedByBoth_39 : decode cX6_firstUnwantedByBoth 39 = .ok (.ireturn, 1) := by decide +kernel
theorem dX6_howManyUnwanted_0 : decode cX6_howManyUnwanted 0 = .ok (.iconst 0, 1) := by decide +kernel
theorem dX6_howManyUnwanted_1 : decode cX6_howManyUnwanted 1 = .ok (.istore_n 2, 1) := by decide +kernel
theorem dX6_howManyUnwanted_2 : decode cX6_howManyUnwanted 2 = .ok (.iconst 0, 1) := by decide +kernel
theorem dX6_howManyUnwanted_3 : decode cX6_howManyUnwanted 3 = .ok (.istore_n 3, 1) := by decide +kernel
theorem dX6_howManyUnwanted_4 : decode cX6_howManyUnwanted 4 = .ok (.iload_n 3, 1) := by decide +kernel
theorem dX6_howManyUnwanted_5 : decode cX6_howManyUnwanted 5 = .ok (.aload_n 0, 1) := by decide +kernel
theorem dX6_howManyUnwanted_6 : decode cX6_howManyUnwanted 6 = .ok (.getfield 59, 3) := by decide +kernel
theorem dX6_howManyUnwanted_9 : decode cX6_howManyUnwanted 9 = .ok (.if_icmp .ge 43, 3) := by decide +kernel
theorem dX6_howManyUnwanted_12 : decode cX6_howManyUnwanted 12 = .ok (.aload_n 0, 1) := by decide +kernel
theorem dX6_howManyUnwanted_13 : decode cX6_howManyUnwanted 13 = .ok (.getfield 34, 3) := by decide +kernel
theorem dX6_howManyUnwanted_16 : decode cX6_howManyUnwanted 16 = .ok (.aload_n 0, 1) := by decide +kernel
theorem dX6_howManyUnwanted_17 : decode cX6_howManyUnwanted 17 = .ok (.getfield 21, 3) := by decide +kernel
theorem dX6_howManyUnwanted_20 : decode cX6_howManyUnwanted 20 = .ok (.iload_n 3, 1) := by decide +kernel
theorem dX6_howManyUnwanted_21 : decode cX6_howManyUnwanted 21 = .ok (.iaload, 1) := by decide +kernel
theorem dX6_howManyUnwanted_22 : decode cX6_howManyUnwanted 22 = .ok (.iload_n 1, 1) := by decide +kernel
theorem dX6_howManyUnwanted_23 : decode cX6_howManyUnwanted 23 = .ok (.invokevirtual 108, 3) := by decide +kernel
theorem dX6_howManyUnwanted_26 : decode cX6_howManyUnwanted 26 = .ok (.ifCond .eq 20, 3) := by decide +kernel
theorem dX6_howManyUnwanted_29 : decode cX6_howManyUnwanted 29 = .ok (.aload_n 0, 1) := by decide +kernel
theorem dX6_howManyUnwanted_30 : decode cX6_howManyUnwanted 30 = .ok (.iload_n 1, 1) := by decide +kernel
theorem dX6_howManyUnwanted_31 : decode cX6_howManyUnwanted 31 = .ok (.aload_n 0, 1) := by decide +kernel
theorem dX6_howManyUnwanted_32 : decode cX6_howManyUnwanted 32 = .ok (.getfield 21, 3) := by decide +kernel
theorem dX6_howManyUnwanted_35 : decode cX6_howManyUnwanted 35 = .ok (.iload_n 3, 1) := by decide +kernel
theorem dX6_howManyUnwanted_36 : decode cX6_howManyUnwanted 36 = .ok (.iaload, 1) := by decide +kernel
theorem dX6_howManyUnwanted_37 : decode cX6_howManyUnwanted 37 = .ok (.invokevirtual 136, 3) := by decide +kernel
theorem dX6_howManyUnwanted_40 : decode cX6_howManyUnwanted 40 = .ok (.ifCond .eq 6, 3) := by decide +kernel
theorem dX6_howManyUnwanted_43 : decode cX6_howManyUnwanted 43 = .ok (.iinc 2 1, 3) := by decide +kernel
theorem dX6_howManyUnwanted_46 : decode cX6_howManyUnwanted 46 = .ok (.iinc 3 1, 3) := by decide +kernel
theorem dX6_howManyUnwanted_49 : decode cX6_howManyUnwanted 49 = .ok (.goto (-45), 3) := by decide +kernel
theorem dX6_howManyUnwanted_52 : decode cX6_howManyUnwanted 52 = .ok (.iload_n 2, 1) := by decide +kernel
theorem dX6_howManyUnwanted_53 : decode cX6_howManyUnwanted 53 = .ok (.ireturn, 1) := by decide +kernel
theorem dX6_join_0 : decode cX6_join 0 = .ok (.iload_n 1, 1) := by decide +kernel
theorem dX6_join_1 : decode cX6_join 1 = .ok (.bipush 6, 2) := by decide +kernel
theorem dX6_join_3 : decode cX6_join 3 = .ok (.imul, 1) := by decide +kernel
theorem dX6_join_4 : decode cX6_join 4 = .ok (.istore_n 3, 1) := by decide +kernel
theorem dX6_join_5 : decode cX6_join 5 = .ok (.iconst 0, 1) := by decide +kernel
theorem dX6_join_6 : decode cX6_join 6 = .ok (.istore 4, 2) := by decide +kernel
theorem dX6_join_8 : decode cX6_join 8 = .ok (.iload 4, 2) := by decide +kernel
theorem dX6_join_10 : decode cX6_join 10 = .ok (.aload_n 0, 1) := by decide +kernel
theorem dX6_join_11 : decode cX6_join 11 = .ok (.getfield 48, 3) := by decide +kernel
theorem dX6_join_14 : decode cX6_join 14 = .ok (.getfield 82, 3) := by decide +kernel
theorem dX6_join_17 : decode cX6_join 17 = .ok (.if_icmp .ge 47, 3) := by decide +kernel
theorem dX6_join_20 : decode cX6_join 20 = .ok (.aload_n 0, 1) := by decide +kernel
theorem dX6_join_21 : decode cX6_join 21 = .ok (.getfield 9, 3) := by decide +kernel
theorem dX6_join_24 : decode cX6_join 24 = .ok (.iload_n 3, 1) := by decide +kernel
theorem dX6_join_25 : decode cX6_join 25 = .ok (.iload 4, 2) := by decide +kernel
theorem dX6_join_27 : decode cX6_join 27 = .ok (.iadd, 1) := by decide +kernel
theorem dX6_join_28 : decode cX6_join 28 = .ok (.iload_n 2, 1) := by decide +kernel
theorem dX6_join_29 : decode cX6_join 29 = .ok (.aload_n 0, 1) := by decide +kernel
theorem dX6_join_30 : decode cX6_join 30 = .ok (.getfield 9, 3) := by decide +kernel
theorem dX6_join_33 : decode cX6_join 33 = .ok (.iconst 2, 1) := by decide +kernel
theorem dX6_join_34 : decode cX6_join 34 = .ok (.iload_n 3, 1) := by decide +kernel
theorem dX6_join_35 : decode cX6_join 35 = .ok (.imul, 1) := by decide +kernel
theorem dX6_join_36 : decode cX6_join 36 = .ok (.iload 4, 2) := by decide +kernel
theorem dX6_join_38 : decode cX6_join 38 = .ok (.iadd, 1) := by decide +kernel
theorem dX6_join_39 : decode cX6_join 39 = .ok (.laload, 1) := by decide +kernel
theorem dX6_join_40 : decode cX6_join 40 = .ok (.aload_n 0, 1) := by decide +kernel
theorem dX6_join_41 : decode cX6_join 41 = .ok (.getfield 9, 3) := by decide +kernel
theorem dX6_join_44 : decode cX6_join 44 = .ok (.iconst 2, 1) := by decide +kernel
theorem dX6_join_45 : decode cX6_join 45 = .ok (.iload_n 3, 1) := by decide +kernel
theorem dX6_join_46 : decode cX6_join 46 = .ok (.imul, 1) := by decide +kernel
theorem dX6_join_47 : decode cX6_join 47 = .ok (.bipush 6, 2) := by decide +kernel
theorem dX6_join_49 : decode cX6_join 49 = .ok (.iadd, 1) := by decide +kernel
theorem dX6_join_50 : decode cX6_join 50 = .ok (.iload 4, 2) := by decide +kernel
theorem dX6_join_52 : decode cX6_join 52 = .ok (.iadd, 1) := by decide +kernel
theorem dX6_join_53 : decode cX6_join 53 = .ok (.laload, 1) := by decide +kernel
theorem dX6_join_54 : decode cX6_join 54 = .ok (.invokestatic 128, 3) := by decide +kernel
theorem dX6_join_57 : decode cX6_join 57 = .ok (.lastore, 1) := by decide +kernel
theorem dX6_join_58 : decode cX6_join 58 = .ok (.iinc 4 1, 3) := by decide +kernel
theorem dX6_join_61 : decode cX6_join 61 = .ok (.goto (-53), 3) := by decide +kernel
theorem dX6_join_64 : decode cX6_join 64 = .ok (.return_, 1) := by decide +kernel
theorem dX6_countBack_0 : decode cX6_countBack 0 = .ok (.aload_n 0, 1) := by decide +kernel
theorem dX6_countBack_1 : decode cX6_countBack 1 = .ok (.iconst 0, 1) := by decide +kernel
theorem dX6_countBack_2 : decode cX6_countBack 2 = .ok (.putfield 142, 3) := by decide +kernel
theorem dX6_countBack_5 : decode cX6_countBack 5 = .ok (.aload_n 0, 1) := by decide +kernel
theorem dX6_countBack_6 : decode cX6_countBack 6 = .ok (.bipush (-4), 2) := by decide +kernel
theorem dX6_countBack_8 : decode cX6_countBack 8 = .ok (.putfield 145, 3) := by decide +kernel
theorem dX6_countBack_11 : decode cX6_countBack 11 = .ok (.aload_n 0, 1) := by decide +kernel
theorem dX6_countBack_12 : decode cX6_countBack 12 = .ok (.getfield 59, 3) := by decide +kernel
theorem dX6_countBack_15 : decode cX6_countBack 15 = .ok (.iconst 1, 1) := by decide +kernel
theorem dX6_countBack_16 : decode cX6_countBack 16 = .ok (.isub, 1) := by decide +kernel
theorem dX6_countBack_17 : decode cX6_countBack 17 = .ok (.istore_n 1, 1) := by decide +kernel
theorem dX6_countBack_18 : decode cX6_countBack 18 = .ok (.iload_n 1, 1) := by decide +kernel
theorem dX6_countBack_19 : decode cX6_countBack 19 = .ok (.ifCond .lt 73, 3) := by decide +kernel
theorem dX6_countBack_22 : decode cX6_countBack 22 = .ok (.aload_n 0, 1) := by decide +kernel
theorem dX6_countBack_23 : decode cX6_countBack 23 = .ok (.getfield 142, 3) := by decide +kernel
theorem dX6_countBack_26 : decode cX6_countBack 26 = .ok (.istore_n 2, 1) := by decide +kernel
theorem dX6_countBack_27 : decode cX6_countBack 27 = .ok (.iconst 0, 1) := by decide +kernel
theorem dX6_countBack_28 : decode cX6_countBack 28 = .ok (.istore_n 3, 1) := by decide +kernel
theorem dX6_countBack_29 : decode cX6_countBack 29 = .ok (.iload_n 3, 1) := by decide +kernel
theorem dX6_countBack_30 : decode cX6_countBack 30 = .ok (.iconst 1, 1) := by decide +kernel
theorem dX6_countBack_31 : decode cX6_countBack 31 = .ok (.iload_n 1, 1) := by decide +kernel
theorem dX6_countBack_32 : decode cX6_countBack 32 = .ok (.ishl, 1) := by decide +kernel
theorem dX6_countBack_33 : decode cX6_countBack 33 = .ok (.if_icmp .ge 35, 3) := by decide +kernel
theorem dX6_countBack_36 : decode cX6_countBack 36 = .ok (.aload_n 0, 1) := by decide +kernel
theorem dX6_countBack_37 : decode cX6_countBack 37 = .ok (.dup, 1) := by decide +kernel
theorem dX6_countBack_38 : decode cX6_countBack 38 = .ok (.getfield 142, 3) := by decide +kernel
theorem dX6_countBack_41 : decode cX6_countBack 41 = .ok (.aload_n 0, 1) := by decide +kernel
theorem dX6_countBack_42 : decode cX6_countBack 42 = .ok (.iload_n 1, 1) := by decide +kernel
theorem dX6_countBack_43 : decode cX6_countBack 43 = .ok (.iload_n 3, 1) := by decide +kernel
theorem dX6_countBack_44 : decode cX6_countBack 44 = .ok (.invokevirtual 148, 3) := by decide +kernel
theorem dX6_countBack_47 : decode cX6_countBack 47 = .ok (.iadd, 1) := by decide +kernel
theorem dX6_countBack_48 : decode cX6_countBack 48 = .ok (.putfield 142, 3) := by decide +kernel
theorem dX6_countBack_51 : decode cX6_countBack 51 = .ok (.aload_n 0, 1) := by decide +kernel
theorem dX6_countBack_52 : decode cX6_countBack 52 = .ok (.iload_n 3, 1) := by decide +kernel
theorem dX6_countBack_53 : decode cX6_countBack 53 = .ok (.aload_n 0, 1) := by decide +kernel
theorem dX6_countBack_54 : decode cX6_countBack 54 = .ok (.getfield 25, 3) := by decide +kernel
theorem dX6_countBack_57 : decode cX6_countBack 57 = .ok (.iload_n 1, 1) := by decide +kernel
theorem dX6_countBack_58 : decode cX6_countBack 58 = .ok (.iaload, 1) := by decide +kernel
theorem dX6_countBack_59 : decode cX6_countBack 59 = .ok (.invokevirtual 151, 3) := by decide +kernel
theorem dX6_countBack_62 : decode cX6_countBack 62 = .ok (.iinc 3 1, 3) := by decide +kernel
theorem dX6_countBack_65 : decode cX6_countBack 65 = .ok (.goto (-36), 3) := by decide +kernel
theorem dX6_countBack_68 : decode cX6_countBack 68 = .ok (.aload_n 0, 1) := by decide +kernel
theorem dX6_countBack_69 : decode cX6_countBack 69 = .ok (.getfield 142, 3) := by decide +kernel
theorem dX6_countBack_72 : decode cX6_countBack 72 = .ok (.iload_n 2, 1) := by decide +kernel
theorem dX6_countBack_73 : decode cX6_countBack 73 = .ok (.if_icmp .le 13, 3) := by decide +kernel
theorem dX6_countBack_76 : decode cX6_countBack 76 = .ok (.aload_n 0, 1) := by decide +kernel
theorem dX6_countBack_77 : decode cX6_countBack 77 = .ok (.aload_n 0, 1) := by decide +kernel
theorem dX6_countBack_78 : decode cX6_countBack 78 = .ok (.getfield 21, 3) := by decide +kernel
theorem dX6_countBack_81 : decode cX6_countBack 81 = .ok (.iload_n 1, 1) := by decide +kernel
theorem dX6_countBack_82 : decode cX6_countBack 82 = .ok (.iaload, 1) := by decide +kernel
theorem dX6_countBack_83 : decode cX6_countBack 83 = .ok (.putfield 145, 3) := by decide +kernel
theorem dX6_countBack_86 : decode cX6_countBack 86 = .ok (.iinc 1 (-1), 3) := by decide +kernel
theorem dX6_countBack_89 : decode cX6_countBack 89 = .ok (.goto (-71), 3) := by decide +kernel
theorem dX6_countBack_92 : decode cX6_countBack 92 = .ok (.return_, 1) := by decide +kernel
theorem dX6_losersAt_0 : decode cX6_losersAt 0 = .ok (.aload_n 0, 1) := by decide +kernel
theorem dX6_losersAt_1 : decode cX6_losersAt 1 = .ok (.getfield 34, 3) := by decide +kernel
theorem dX6_losersAt_4 : decode cX6_losersAt 4 = .ok (.getfield 72, 3) := by decide +kernel
theorem dX6_losersAt_7 : decode cX6_losersAt 7 = .ok (.aload_n 0, 1) := by decide +kernel
theorem dX6_losersAt_8 : decode cX6_losersAt 8 = .ok (.getfield 21, 3) := by decide +kernel
theorem dX6_losersAt_11 : decode cX6_losersAt 11 = .ok (.iload_n 1, 1) := by decide +kernel
theorem dX6_losersAt_12 : decode cX6_losersAt 12 = .ok (.iaload, 1) := by decide +kernel
theorem dX6_losersAt_13 : decode cX6_losersAt 13 = .ok (.iaload, 1) := by decide +kernel
theorem dX6_losersAt_14 : decode cX6_losersAt 14 = .ok (.istore_n 3, 1) := by decide +kernel
theorem dX6_losersAt_15 : decode cX6_losersAt 15 = .ok (.aload_n 0, 1) := by decide +kernel
theorem dX6_losersAt_16 : decode cX6_losersAt 16 = .ok (.getfield 34, 3) := by decide +kernel
theorem dX6_losersAt_19 : decode cX6_losersAt 19 = .ok (.getfield 75, 3) := by decide +kernel
theorem dX6_losersAt_22 : decode cX6_losersAt 22 = .ok (.aload_n 0, 1) := by decide +kernel
theorem dX6_losersAt_23 : decode cX6_losersAt 23 = .ok (.getfield 21, 3) := by decide +kernel
theorem dX6_losersAt_26 : decode cX6_losersAt 26 = .ok (.iload_n 1, 1) := by decide +kernel
theorem dX6_losersAt_27 : decode cX6_losersAt 27 = .ok (.iaload, 1) := by decide +kernel
theorem dX6_losersAt_28 : decode cX6_losersAt 28 = .ok (.iaload, 1) := by decide +kernel
theorem dX6_losersAt_29 : decode cX6_losersAt 29 = .ok (.istore 4, 2) := by decide +kernel
theorem dX6_losersAt_31 : decode cX6_losersAt 31 = .ok (.iconst 2, 1) := by decide +kernel
theorem dX6_losersAt_32 : decode cX6_losersAt 32 = .ok (.iload_n 2, 1) := by decide +kernel
theorem dX6_losersAt_33 : decode cX6_losersAt 33 = .ok (.imul, 1) := by decide +kernel
theorem dX6_losersAt_34 : decode cX6_losersAt 34 = .ok (.bipush 6, 2) := by decide +kernel
theorem dX6_losersAt_36 : decode cX6_losersAt 36 = .ok (.imul, 1) := by decide +kernel
theorem dX6_losersAt_37 : decode cX6_losersAt 37 = .ok (.istore 5, 2) := by decide +kernel
theorem dX6_losersAt_39 : decode cX6_losersAt 39 = .ok (.iload 5, 2) := by decide +kernel
theorem dX6_losersAt_41 : decode cX6_losersAt 41 = .ok (.bipush 6, 2) := by decide +kernel
theorem dX6_losersAt_43 : decode cX6_losersAt 43 = .ok (.iadd, 1) := by decide +kernel
theorem dX6_losersAt_44 : decode cX6_losersAt 44 = .ok (.istore 6, 2) := by decide +kernel
theorem dX6_losersAt_46 : decode cX6_losersAt 46 = .ok (.aload_n 0, 1) := by decide +kernel
theorem dX6_losersAt_47 : decode cX6_losersAt 47 = .ok (.getfield 9, 3) := by decide +kernel
theorem dX6_losersAt_50 : decode cX6_losersAt 50 = .ok (.iload 6, 2) := by decide +kernel
theorem dX6_losersAt_52 : decode cX6_losersAt 52 = .ok (.iload_n 3, 1) := by decide +kernel
theorem dX6_losersAt_53 : decode cX6_losersAt 53 = .ok (.iadd, 1) := by decide +kernel
theorem dX6_losersAt_54 : decode cX6_losersAt 54 = .ok (.laload, 1) := by decide +kernel
theorem dX6_losersAt_55 : decode cX6_losersAt 55 = .ok (.aload_n 0, 1) := by decide +kernel
theorem dX6_losersAt_56 : decode cX6_losersAt 56 = .ok (.getfield 9, 3) := by decide +kernel
theorem dX6_losersAt_59 : decode cX6_losersAt 59 = .ok (.iload 5, 2) := by decide +kernel
theorem dX6_losersAt_61 : decode cX6_losersAt 61 = .ok (.iload_n 3, 1) := by decide +kernel
theorem dX6_losersAt_62 : decode cX6_losersAt 62 = .ok (.iadd, 1) := by decide +kernel
theorem dX6_losersAt_63 : decode cX6_losersAt 63 = .ok (.laload, 1) := by decide +kernel
theorem dX6_losersAt_64 : decode cX6_losersAt 64 = .ok (.lcmp, 1) := by decide +kernel
theorem dX6_losersAt_65 : decode cX6_losersAt 65 = .ok (.ifCond .le 7, 3) := by decide +kernel
theorem dX6_losersAt_68 : decode cX6_losersAt 68 = .ok (.iconst 1, 1) := by decide +kernel
theorem dX6_losersAt_69 : decode cX6_losersAt 69 = .ok (.goto 4, 3) := by decide +kernel
theorem dX6_losersAt_72 : decode cX6_losersAt 72 = .ok (.iconst 0, 1) := by decide +kernel
theorem dX6_losersAt_73 : decode cX6_losersAt 73 = .ok (.istore 7, 2) := by decide +kernel
theorem dX6_losersAt_75 : decode cX6_losersAt 75 = .ok (.aload_n 0, 1) := by decide +kernel
theorem dX6_losersAt_76 : decode cX6_losersAt 76 = .ok (.getfield 9, 3) := by decide +kernel
theorem dX6_losersAt_79 : decode cX6_losersAt 79 = .ok (.iload 5, 2) := by decide +kernel
theorem dX6_losersAt_81 : decode cX6_losersAt 81 = .ok (.iload 4, 2) := by decide +kernel
theorem dX6_losersAt_83 : decode cX6_losersAt 83 = .ok (.iadd, 1) := by decide +kernel
theorem dX6_losersAt_84 : decode cX6_losersAt 84 = .ok (.laload, 1) := by decide +kernel
theorem dX6_losersAt_85 : decode cX6_losersAt 85 = .ok (.aload_n 0, 1) := by decide +kernel
theorem dX6_losersAt_86 : decode cX6_losersAt 86 = .ok (.getfield 9, 3) := by decide +kernel
theorem dX6_losersAt_89 : decode cX6_losersAt 89 = .ok (.iload 6, 2) := by decide +kernel
theorem dX6_losersAt_91 : decode cX6_losersAt 91 = .ok (.iload 4, 2) := by decide +kernel
theorem dX6_losersAt_93 : decode cX6_losersAt 93 = .ok (.iadd, 1) := by decide +kernel
theorem dX6_losersAt_94 : decode cX6_losersAt 94 = .ok (.laload, 1) := by decide +kernel
theorem dX6_losersAt_95 : decode cX6_losersAt 95 = .ok (.lcmp, 1) := by decide +kernel
theorem dX6_losersAt_96 : decode cX6_losersAt 96 = .ok (.ifCond .le 10, 3) := by decide +kernel
theorem dX6_losersAt_99 : decode cX6_losersAt 99 = .ok (.iload 7, 2) := by decide +kernel
theorem dX6_losersAt_101 : decode cX6_losersAt 101 = .ok (.iconst 1, 1) := by decide +kernel
theorem dX6_losersAt_102 : decode cX6_losersAt 102 = .ok (.iadd, 1) := by decide +kernel
theorem dX6_losersAt_103 : decode cX6_losersAt 103 = .ok (.goto 5, 3) := by decide +kernel
theorem dX6_losersAt_106 : decode cX6_losersAt 106 = .ok (.iload 7, 2) := by decide +kernel
theorem dX6_losersAt_108 : decode cX6_losersAt 108 = .ok (.ireturn, 1) := by decide +kernel
theorem dX6_playBack_0 : decode cX6_playBack 0 = .ok (.aload_n 0, 1) := by decide +kernel
theorem dX6_playBack_1 : decode cX6_playBack 1 = .ok (.getfield 59, 3) := by decide +kernel
theorem dX6_playBack_4 : decode cX6_playBack 4 = .ok (.iconst 1, 1) := by decide +kernel
theorem dX6_playBack_5 : decode cX6_playBack 5 = .ok (.isub, 1) := by decide +kernel
theorem dX6_playBack_6 : decode cX6_playBack 6 = .ok (.istore_n 1, 1) := by decide +kernel
theorem dX6_playBack_7 : decode cX6_playBack 7 = .ok (.iload_n 1, 1) := by decide +kernel
theorem dX6_playBack_8 : decode cX6_playBack 8 = .ok (.ifCond .lt 49, 3) := by decide +kernel
theorem dX6_playBack_11 : decode cX6_playBack 11 = .ok (.aload_n 0, 1) := by decide +kernel
theorem dX6_playBack_12 : decode cX6_playBack 12 = .ok (.iload_n 1, 1) := by decide +kernel
theorem dX6_playBack_13 : decode cX6_playBack 13 = .ok (.invokevirtual 155, 3) := by decide +kernel
theorem dX6_playBack_16 : decode cX6_playBack 16 = .ok (.iconst 0, 1) := by decide +kernel
theorem dX6_playBack_17 : decode cX6_playBack 17 = .ok (.istore_n 2, 1) := by decide +kernel
theorem dX6_playBack_18 : decode cX6_playBack 18 = .ok (.iload_n 2, 1) := by decide +kernel
theorem dX6_playBack_19 : decode cX6_playBack 19 = .ok (.iconst 1, 1) := by decide +kernel
theorem dX6_playBack_20 : decode cX6_playBack 20 = .ok (.iload_n 1, 1) := by decide +kernel
theorem dX6_playBack_21 : decode cX6_playBack 21 = .ok (.ishl, 1) := by decide +kernel
theorem dX6_playBack_22 : decode cX6_playBack 22 = .ok (.if_icmp .ge 29, 3) := by decide +kernel
theorem dX6_playBack_25 : decode cX6_playBack 25 = .ok (.aload_n 0, 1) := by decide +kernel
theorem dX6_playBack_26 : decode cX6_playBack 26 = .ok (.iload_n 1, 1) := by decide +kernel
theorem dX6_playBack_27 : decode cX6_playBack 27 = .ok (.iload_n 2, 1) := by decide +kernel
theorem dX6_playBack_28 : decode cX6_playBack 28 = .ok (.invokevirtual 158, 3) := by decide +kernel
theorem dX6_playBack_31 : decode cX6_playBack 31 = .ok (.aload_n 0, 1) := by decide +kernel
theorem dX6_playBack_32 : decode cX6_playBack 32 = .ok (.iload_n 2, 1) := by decide +kernel
theorem dX6_playBack_33 : decode cX6_playBack 33 = .ok (.aload_n 0, 1) := by decide +kernel
theorem dX6_playBack_34 : decode cX6_playBack 34 = .ok (.getfield 28, 3) := by decide +kernel
theorem dX6_playBack_37 : decode cX6_playBack 37 = .ok (.aload_n 0, 1) := by decide +kernel
theorem dX6_playBack_38 : decode cX6_playBack 38 = .ok (.getfield 161, 3) := by decide +kernel
theorem dX6_playBack_41 : decode cX6_playBack 41 = .ok (.iaload, 1) := by decide +kernel
theorem dX6_playBack_42 : decode cX6_playBack 42 = .ok (.invokevirtual 151, 3) := by decide +kernel
theorem dX6_playBack_45 : decode cX6_playBack 45 = .ok (.iinc 2 1, 3) := by decide +kernel
theorem dX6_playBack_48 : decode cX6_playBack 48 = .ok (.goto (-30), 3) := by decide +kernel
theorem dX6_playBack_51 : decode cX6_playBack 51 = .ok (.iinc 1 (-1), 3) := by decide +kernel
theorem dX6_playBack_54 : decode cX6_playBack 54 = .ok (.goto (-47), 3) := by decide +kernel
theorem dX6_playBack_57 : decode cX6_playBack 57 = .ok (.iconst 0, 1) := by decide +kernel
theorem dX6_playBack_58 : decode cX6_playBack 58 = .ok (.istore_n 1, 1) := by decide +kernel
theorem dX6_playBack_59 : decode cX6_playBack 59 = .ok (.iload_n 1, 1) := by decide +kernel
theorem dX6_playBack_60 : decode cX6_playBack 60 = .ok (.aload_n 0, 1) := by decide +kernel
theorem dX6_playBack_61 : decode cX6_playBack 61 = .ok (.getfield 48, 3) := by decide +kernel
theorem dX6_playBack_64 : decode cX6_playBack 64 = .ok (.getfield 82, 3) := by decide +kernel
theorem dX6_playBack_67 : decode cX6_playBack 67 = .ok (.if_icmp .ge 21, 3) := by decide +kernel
theorem dX6_playBack_70 : decode cX6_playBack 70 = .ok (.aload_n 0, 1) := by decide +kernel
theorem dX6_playBack_71 : decode cX6_playBack 71 = .ok (.getfield 18, 3) := by decide +kernel
theorem dX6_playBack_74 : decode cX6_playBack 74 = .ok (.iload_n 1, 1) := by decide +kernel
theorem dX6_playBack_75 : decode cX6_playBack 75 = .ok (.aload_n 0, 1) := by decide +kernel
theorem dX6_playBack_76 : decode cX6_playBack 76 = .ok (.getfield 9, 3) := by decide +kernel
theorem dX6_playBack_79 : decode cX6_playBack 79 = .ok (.iload_n 1, 1) := by decide +kernel
theorem dX6_playBack_80 : decode cX6_playBack 80 = .ok (.laload, 1) := by decide +kernel
theorem dX6_playBack_81 : decode cX6_playBack 81 = .ok (.lastore, 1) := by decide +kernel
theorem dX6_playBack_82 : decode cX6_playBack 82 = .ok (.iinc 1 1, 3) := by decide +kernel
theorem dX6_playBack_85 : decode cX6_playBack 85 = .ok (.goto (-26), 3) := by decide +kernel
theorem dX6_playBack_88 : decode cX6_playBack 88 = .ok (.return_, 1) := by decide +kernel
theorem dX6_weighPairs_0 : decode cX6_weighPairs 0 = .ok (.aload_n 0, 1) := by decide +kernel
theorem dX6_weighPairs_1 : decode cX6_weighPairs 1 = .ok (.getfield 48, 3) := by decide +kernel
theorem dX6_weighPairs_4 : decode cX6_weighPairs 4 = .ok (.getfield 69, 3) := by decide +kernel
theorem dX6_weighPairs_7 : decode cX6_weighPairs 7 = .ok (.aload_n 0, 1) := by decide +kernel
theorem dX6_weighPairs_8 : decode cX6_weighPairs 8 = .ok (.getfield 34, 3) := by decide +kernel
theorem dX6_weighPairs_11 : decode cX6_weighPairs 11 = .ok (.getfield 72, 3) := by decide +kernel
theorem dX6_weighPairs_14 : decode cX6_weighPairs 14 = .ok (.aload_n 0, 1) := by decide +kernel
theorem dX6_weighPairs_15 : decode cX6_weighPairs 15 = .ok (.getfield 21, 3) := by decide +kernel
theorem dX6_weighPairs_18 : decode cX6_weighPairs 18 = .ok (.iload_n 1, 1) := by decide +kernel
theorem dX6_weighPairs_19 : decode cX6_weighPairs 19 = .ok (.iaload, 1) := by decide +kernel
theorem dX6_weighPairs_20 : decode cX6_weighPairs 20 = .ok (.iaload, 1) := by decide +kernel
theorem dX6_weighPairs_21 : decode cX6_weighPairs 21 = .ok (.iaload, 1) := by decide +kernel
theorem dX6_weighPairs_22 : decode cX6_weighPairs 22 = .ok (.istore_n 2, 1) := by decide +kernel
theorem dX6_weighPairs_23 : decode cX6_weighPairs 23 = .ok (.aload_n 0, 1) := by decide +kernel
theorem dX6_weighPairs_24 : decode cX6_weighPairs 24 = .ok (.getfield 48, 3) := by decide +kernel
theorem dX6_weighPairs_27 : decode cX6_weighPairs 27 = .ok (.getfield 69, 3) := by decide +kernel
theorem dX6_weighPairs_30 : decode cX6_weighPairs 30 = .ok (.aload_n 0, 1) := by decide +kernel
theorem dX6_weighPairs_31 : decode cX6_weighPairs 31 = .ok (.getfield 34, 3) := by decide +kernel
theorem dX6_weighPairs_34 : decode cX6_weighPairs 34 = .ok (.getfield 75, 3) := by decide +kernel
theorem dX6_weighPairs_37 : decode cX6_weighPairs 37 = .ok (.aload_n 0, 1) := by decide +kernel
theorem dX6_weighPairs_38 : decode cX6_weighPairs 38 = .ok (.getfield 21, 3) := by decide +kernel
theorem dX6_weighPairs_41 : decode cX6_weighPairs 41 = .ok (.iload_n 1, 1) := by decide +kernel
theorem dX6_weighPairs_42 : decode cX6_weighPairs 42 = .ok (.iaload, 1) := by decide +kernel
theorem dX6_weighPairs_43 : decode cX6_weighPairs 43 = .ok (.iaload, 1) := by decide +kernel
theorem dX6_weighPairs_44 : decode cX6_weighPairs 44 = .ok (.iaload, 1) := by decide +kernel
theorem dX6_weighPairs_45 : decode cX6_weighPairs 45 = .ok (.istore_n 3, 1) := by decide +kernel
theorem dX6_weighPairs_46 : decode cX6_weighPairs 46 = .ok (.iconst 0, 1) := by decide +kernel
theorem dX6_weighPairs_47 : decode cX6_weighPairs 47 = .ok (.istore 4, 2) := by decide +kernel
theorem dX6_weighPairs_49 : decode cX6_weighPairs 49 = .ok (.iload 4, 2) := by decide +kernel
theorem dX6_weighPairs_51 : decode cX6_weighPairs 51 = .ok (.iconst 4, 1) := by decide +kernel
theorem dX6_weighPairs_52 : decode cX6_weighPairs 52 = .ok (.if_icmp .ge 49, 3) := by decide +kernel
theorem dX6_weighPairs_55 : decode cX6_weighPairs 55 = .ok (.aload_n 0, 1) := by decide +kernel
theorem dX6_weighPairs_56 : decode cX6_weighPairs 56 = .ok (.getfield 28, 3) := by decide +kernel
theorem dX6_weighPairs_59 : decode cX6_weighPairs 59 = .ok (.iload 4, 2) := by decide +kernel
theorem dX6_weighPairs_61 : decode cX6_weighPairs 61 = .ok (.iload 4, 2) := by decide +kernel
theorem dX6_weighPairs_63 : decode cX6_weighPairs 63 = .ok (.iconst 2, 1) := by decide +kernel
theorem dX6_weighPairs_64 : decode cX6_weighPairs 64 = .ok (.iand, 1) := by decide +kernel
theorem dX6_weighPairs_65 : decode cX6_weighPairs 65 = .ok (.ifCond .eq 10, 3) := by decide +kernel
theorem dX6_weighPairs_68 : decode cX6_weighPairs 68 = .ok (.iload_n 2, 1) := by decide +kernel
theorem dX6_weighPairs_69 : decode cX6_weighPairs 69 = .ok (.invokestatic 164, 3) := by decide +kernel
theorem dX6_weighPairs_72 : decode cX6_weighPairs 72 = .ok (.goto 4, 3) := by decide +kernel
theorem dX6_weighPairs_75 : decode cX6_weighPairs 75 = .ok (.iload_n 2, 1) := by decide +kernel
theorem dX6_weighPairs_76 : decode cX6_weighPairs 76 = .ok (.iload 4, 2) := by decide +kernel
theorem dX6_weighPairs_78 : decode cX6_weighPairs 78 = .ok (.iconst 1, 1) := by decide +kernel
theorem dX6_weighPairs_79 : decode cX6_weighPairs 79 = .ok (.iand, 1) := by decide +kernel
theorem dX6_weighPairs_80 : decode cX6_weighPairs 80 = .ok (.ifCond .eq 10, 3) := by decide +kernel
theorem dX6_weighPairs_83 : decode cX6_weighPairs 83 = .ok (.iload_n 3, 1) := by decide +kernel
theorem dX6_weighPairs_84 : decode cX6_weighPairs 84 = .ok (.invokestatic 164, 3) := by decide +kernel
theorem dX6_weighPairs_87 : decode cX6_weighPairs 87 = .ok (.goto 4, 3) := by decide +kernel
theorem dX6_weighPairs_90 : decode cX6_weighPairs 90 = .ok (.iload_n 3, 1) := by decide +kernel
theorem dX6_weighPairs_91 : decode cX6_weighPairs 91 = .ok (.invokestatic 78, 3) := by decide +kernel
theorem dX6_weighPairs_94 : decode cX6_weighPairs 94 = .ok (.iastore, 1) := by decide +kernel
theorem dX6_weighPairs_95 : decode cX6_weighPairs 95 = .ok (.iinc 4 1, 3) := by decide +kernel
theorem dX6_weighPairs_98 : decode cX6_weighPairs 98 = .ok (.goto (-49), 3) := by decide +kernel
theorem dX6_weighPairs_101 : decode cX6_weighPairs 101 = .ok (.return_, 1) := by decide +kernel
theorem dX6_choosePair_0 : decode cX6_choosePair 0 = .ok (.aload_n 0, 1) := by decide +kernel
theorem dX6_choosePair_1 : decode cX6_choosePair 1 = .ok (.iconst 0, 1) := by decide +kernel
theorem dX6_choosePair_2 : decode cX6_choosePair 2 = .ok (.putfield 161, 3) := by decide +kernel
theorem dX6_choosePair_5 : decode cX6_choosePair 5 = .ok (.aload_n 0, 1) := by decide +kernel
theorem dX6_choosePair_6 : decode cX6_choosePair 6 = .ok (.iconst 0, 1) := by decide +kernel
theorem dX6_choosePair_7 : decode cX6_choosePair 7 = .ok (.putfield 167, 3) := by decide +kernel
theorem dX6_choosePair_10 : decode cX6_choosePair 10 = .ok (.iconst 0, 1) := by decide +kernel
theorem dX6_choosePair_11 : decode cX6_choosePair 11 = .ok (.istore_n 3, 1) := by decide +kernel
theorem dX6_choosePair_12 : decode cX6_choosePair 12 = .ok (.iload_n 3, 1) := by decide +kernel
theorem dX6_choosePair_13 : decode cX6_choosePair 13 = .ok (.iconst 4, 1) := by decide +kernel
theorem dX6_choosePair_14 : decode cX6_choosePair 14 = .ok (.if_icmp .ge 78, 3) := by decide +kernel
theorem dX6_choosePair_17 : decode cX6_choosePair 17 = .ok (.aload_n 0, 1) := by decide +kernel
theorem dX6_choosePair_18 : decode cX6_choosePair 18 = .ok (.getfield 167, 3) := by decide +kernel
theorem dX6_choosePair_21 : decode cX6_choosePair 21 = .ok (.ifCond .ne 71, 3) := by decide +kernel
theorem dX6_choosePair_24 : decode cX6_choosePair 24 = .ok (.aload_n 0, 1) := by decide +kernel
theorem dX6_choosePair_25 : decode cX6_choosePair 25 = .ok (.aload_n 0, 1) := by decide +kernel
theorem dX6_choosePair_26 : decode cX6_choosePair 26 = .ok (.getfield 34, 3) := by decide +kernel
theorem dX6_choosePair_29 : decode cX6_choosePair 29 = .ok (.getfield 72, 3) := by decide +kernel
theorem dX6_choosePair_32 : decode cX6_choosePair 32 = .ok (.aload_n 0, 1) := by decide +kernel
theorem dX6_choosePair_33 : decode cX6_choosePair 33 = .ok (.getfield 21, 3) := by decide +kernel
theorem dX6_choosePair_36 : decode cX6_choosePair 36 = .ok (.iload_n 1, 1) := by decide +kernel
theorem dX6_choosePair_37 : decode cX6_choosePair 37 = .ok (.iaload, 1) := by decide +kernel
theorem dX6_choosePair_38 : decode cX6_choosePair 38 = .ok (.iaload, 1) := by decide +kernel
theorem dX6_choosePair_39 : decode cX6_choosePair 39 = .ok (.iload_n 2, 1) := by decide +kernel
theorem dX6_choosePair_40 : decode cX6_choosePair 40 = .ok (.iload_n 3, 1) := by decide +kernel
theorem dX6_choosePair_41 : decode cX6_choosePair 41 = .ok (.iload_n 3, 1) := by decide +kernel
theorem dX6_choosePair_42 : decode cX6_choosePair 42 = .ok (.iconst 2, 1) := by decide +kernel
theorem dX6_choosePair_43 : decode cX6_choosePair 43 = .ok (.ixor, 1) := by decide +kernel
theorem dX6_choosePair_44 : decode cX6_choosePair 44 = .ok (.invokevirtual 171, 3) := by decide +kernel
theorem dX6_choosePair_47 : decode cX6_choosePair 47 = .ok (.ifCond .ne 39, 3) := by decide +kernel
theorem dX6_choosePair_50 : decode cX6_choosePair 50 = .ok (.aload_n 0, 1) := by decide +kernel
theorem dX6_choosePair_51 : decode cX6_choosePair 51 = .ok (.aload_n 0, 1) := by decide +kernel
theorem dX6_choosePair_52 : decode cX6_choosePair 52 = .ok (.getfield 34, 3) := by decide +kernel
theorem dX6_choosePair_55 : decode cX6_choosePair 55 = .ok (.getfield 75, 3) := by decide +kernel
theorem dX6_choosePair_58 : decode cX6_choosePair 58 = .ok (.aload_n 0, 1) := by decide +kernel
theorem dX6_choosePair_59 : decode cX6_choosePair 59 = .ok (.getfield 21, 3) := by decide +kernel
theorem dX6_choosePair_62 : decode cX6_choosePair 62 = .ok (.iload_n 1, 1) := by decide +kernel
theorem dX6_choosePair_63 : decode cX6_choosePair 63 = .ok (.iaload, 1) := by decide +kernel
theorem dX6_choosePair_64 : decode cX6_choosePair 64 = .ok (.iaload, 1) := by decide +kernel
theorem dX6_choosePair_65 : decode cX6_choosePair 65 = .ok (.iload_n 2, 1) := by decide +kernel
theorem dX6_choosePair_66 : decode cX6_choosePair 66 = .ok (.iload_n 3, 1) := by decide +kernel
theorem dX6_choosePair_67 : decode cX6_choosePair 67 = .ok (.iload_n 3, 1) := by decide +kernel
theorem dX6_choosePair_68 : decode cX6_choosePair 68 = .ok (.iconst 1, 1) := by decide +kernel
theorem dX6_choosePair_69 : decode cX6_choosePair 69 = .ok (.ixor, 1) := by decide +kernel
theorem dX6_choosePair_70 : decode cX6_choosePair 70 = .ok (.invokevirtual 171, 3) := by decide +kernel
theorem dX6_choosePair_73 : decode cX6_choosePair 73 = .ok (.ifCond .ne 13, 3) := by decide +kernel
theorem dX6_choosePair_76 : decode cX6_choosePair 76 = .ok (.aload_n 0, 1) := by decide +kernel
theorem dX6_choosePair_77 : decode cX6_choosePair 77 = .ok (.iload_n 3, 1) := by decide +kernel
theorem dX6_choosePair_78 : decode cX6_choosePair 78 = .ok (.putfield 161, 3) := by decide +kernel
theorem dX6_choosePair_81 : decode cX6_choosePair 81 = .ok (.aload_n 0, 1) := by decide +kernel
theorem dX6_choosePair_82 : decode cX6_choosePair 82 = .ok (.iconst 1, 1) := by decide +kernel
theorem dX6_choosePair_83 : decode cX6_choosePair 83 = .ok (.putfield 167, 3) := by decide +kernel
theorem dX6_choosePair_86 : decode cX6_choosePair 86 = .ok (.iinc 3 1, 3) := by decide +kernel
theorem dX6_choosePair_89 : decode cX6_choosePair 89 = .ok (.goto (-77), 3) := by decide +kernel
theorem dX6_choosePair_92 : decode cX6_choosePair 92 = .ok (.return_, 1) := by decide +kernel
theorem dX6_gains_0 : decode cX6_gains 0 = .ok (.aload_n 0, 1) := by decide +kernel
theorem dX6_gains_1 : decode cX6_gains 1 = .ok (.getfield 9, 3) := by decide +kernel
theorem dX6_gains_4 : decode cX6_gains 4 = .ok (.iconst 2, 1) := by decide +kernel
theorem dX6_gains_5 : decode cX6_gains 5 = .ok (.iload_n 2, 1) := by decide +kernel
theorem dX6_gains_6 : decode cX6_gains 6 = .ok (.imul, 1) := by decide +kernel
theorem dX6_gains_7 : decode cX6_gains 7 = .ok (.bipush 6, 2) := by decide +kernel
theorem dX6_gains_9 : decode cX6_gains 9 = .ok (.imul, 1) := by decide +kernel
theorem dX6_gains_10 : decode cX6_gains 10 = .ok (.iload_n 1, 1) := by decide +kernel
theorem dX6_gains_11 : decode cX6_gains 11 = .ok (.iadd, 1) := by decide +kernel
theorem dX6_gains_12 : decode cX6_gains 12 = .ok (.laload, 1) := by decide +kernel
theorem dX6_gains_13 : decode cX6_gains 13 = .ok (.lstore 5, 2) := by decide +kernel
theorem dX6_gains_15 : decode cX6_gains 15 = .ok (.aload_n 0, 1) := by decide +kernel
theorem dX6_gains_16 : decode cX6_gains 16 = .ok (.getfield 9, 3) := by decide +kernel
theorem dX6_gains_19 : decode cX6_gains 19 = .ok (.iconst 2, 1) := by decide +kernel
theorem dX6_gains_20 : decode cX6_gains 20 = .ok (.iload_n 2, 1) := by decide +kernel
theorem dX6_gains_21 : decode cX6_gains 21 = .ok (.imul, 1) := by decide +kernel
theorem dX6_gains_22 : decode cX6_gains 22 = .ok (.iconst 1, 1) := by decide +kernel
theorem dX6_gains_23 : decode cX6_gains 23 = .ok (.iadd, 1) := by decide +kernel
theorem dX6_gains_24 : decode cX6_gains 24 = .ok (.bipush 6, 2) := by decide +kernel
theorem dX6_gains_26 : decode cX6_gains 26 = .ok (.imul, 1) := by decide +kernel
theorem dX6_gains_27 : decode cX6_gains 27 = .ok (.iload_n 1, 1) := by decide +kernel
theorem dX6_gains_28 : decode cX6_gains 28 = .ok (.iadd, 1) := by decide +kernel
theorem dX6_gains_29 : decode cX6_gains 29 = .ok (.laload, 1) := by decide +kernel
theorem dX6_gains_30 : decode cX6_gains 30 = .ok (.lstore 7, 2) := by decide +kernel
theorem dX6_gains_32 : decode cX6_gains 32 = .ok (.aload_n 0, 1) := by decide +kernel
theorem dX6_gains_33 : decode cX6_gains 33 = .ok (.getfield 28, 3) := by decide +kernel
theorem dX6_gains_36 : decode cX6_gains 36 = .ok (.iload 4, 2) := by decide +kernel
theorem dX6_gains_38 : decode cX6_gains 38 = .ok (.iaload, 1) := by decide +kernel
theorem dX6_gains_39 : decode cX6_gains 39 = .ok (.lload 5, 2) := by decide +kernel
theorem dX6_gains_41 : decode cX6_gains 41 = .ok (.lload 7, 2) := by decide +kernel
theorem dX6_gains_43 : decode cX6_gains 43 = .ok (.invokestatic 128, 3) := by decide +kernel
theorem dX6_gains_46 : decode cX6_gains 46 = .ok (.aload_n 0, 1) := by decide +kernel
theorem dX6_gains_47 : decode cX6_gains 47 = .ok (.getfield 28, 3) := by decide +kernel
theorem dX6_gains_50 : decode cX6_gains 50 = .ok (.iload_n 3, 1) := by decide +kernel
theorem dX6_gains_51 : decode cX6_gains 51 = .ok (.iaload, 1) := by decide +kernel
theorem dX6_gains_52 : decode cX6_gains 52 = .ok (.lload 5, 2) := by decide +kernel
theorem dX6_gains_54 : decode cX6_gains 54 = .ok (.lload 7, 2) := by decide +kernel
theorem dX6_gains_56 : decode cX6_gains 56 = .ok (.invokestatic 128, 3) := by decide +kernel
theorem dX6_gains_59 : decode cX6_gains 59 = .ok (.lcmp, 1) := by decide +kernel
theorem dX6_gains_60 : decode cX6_gains 60 = .ok (.ifCond .le 7, 3) := by decide +kernel
theorem dX6_gains_63 : decode cX6_gains 63 = .ok (.iconst 1, 1) := by decide +kernel
theorem dX6_gains_64 : decode cX6_gains 64 = .ok (.goto 4, 3) := by decide +kernel
theorem dX6_gains_67 : decode cX6_gains 67 = .ok (.iconst 0, 1) := by decide +kernel
theorem dX6_gains_68 : decode cX6_gains 68 = .ok (.ireturn, 1) := by decide +kernel
theorem dX7_init_0 : decode cX7_init 0 = .ok (.aload_n 0, 1) := by decide +kernel
theorem dX7_init_1 : decode cX7_init 1 = .ok (.invokespecial 3, 3) := by decide +kernel
theorem dX7_init_4 : decode cX7_init 4 = .ok (.aload_n 0, 1) := by decide +kernel
theorem dX7_init_5 : decode cX7_init 5 = .ok (.bipush 6, 2) := by decide +kernel
theorem dX7_init_7 : decode cX7_init 7 = .ok (.newarray .int, 2) := by decide +kernel
theorem dX7_init_9 : decode cX7_init 9 = .ok (.putfield 9, 3) := by decide +kernel
theorem dX7_init_12 : decode cX7_init 12 = .ok (.aload_n 0, 1) := by decide +kernel
theorem dX7_init_13 : decode cX7_init 13 = .ok (.bipush 6, 2) := by decide +kernel
theorem dX7_init_15 : decode cX7_init 15 = .ok (.newarray .int, 2) := by decide +kernel
theorem dX7_init_17 : decode cX7_init 17 = .ok (.putfield 15, 3) := by decide +kernel
theorem dX7_init_20 : decode cX7_init 20 = .ok (.aload_n 0, 1) := by decide +kernel
theorem dX7_init_21 : decode cX7_init 21 = .ok (.new 18, 3) := by decide +kernel
theorem dX7_init_24 : decode cX7_init 24 = .ok (.dup, 1) := by decide +kernel
theorem dX7_init_25 : decode cX7_init 25 = .ok (.invokespecial 20, 3) := by decide +kernel
theorem dX7_init_28 : decode cX7_init 28 = .ok (.putfield 21, 3) := by decide +kernel
theorem dX7_init_31 : decode cX7_init 31 = .ok (.aload_n 0, 1) := by decide +kernel
theorem dX7_init_32 : decode cX7_init 32 = .ok (.new 25, 3) := by decide +kernel
theorem dX7_init_35 : decode cX7_init 35 = .ok (.dup, 1) := by decide +kernel
theorem dX7_init_36 : decode cX7_init 36 = .ok (.invokespecial 27, 3) := by decide +kernel
theorem dX7_init_39 : decode cX7_init 39 = .ok (.putfield 28, 3) := by decide +kernel
theorem dX7_init_42 : decode cX7_init 42 = .ok (.return_, 1) := by decide +kernel
theorem dX7_pass_0 : decode cX7_pass 0 = .ok (.aload_n 0, 1) := by decide +kernel
theorem dX7_pass_1 : decode cX7_pass 1 = .ok (.iload_n 3, 1) := by decide +kernel
theorem dX7_pass_2 : decode cX7_pass 2 = .ok (.putfield 32, 3) := by decide +kernel
theorem dX7_pass_5 : decode cX7_pass 5 = .ok (.aload_n 0, 1) := by decide +kernel
theorem dX7_pass_6 : decode cX7_pass 6 = .ok (.iconst 0, 1) := by decide +kernel
theorem dX7_pass_7 : decode cX7_pass 7 = .ok (.putfield 36, 3) := by decide +kernel
theorem dX7_pass_10 : decode cX7_pass 10 = .ok (.aload_n 0, 1) := by decide +kernel
theorem dX7_pass_11 : decode cX7_pass 11 = .ok (.iconst 0, 1) := by decide +kernel
theorem dX7_pass_12 : decode cX7_pass 12 = .ok (.putfield 39, 3) := by decide +kernel
theorem dX7_pass_15 : decode cX7_pass 15 = .ok (.aload_n 0, 1) := by decide +kernel
theorem dX7_pass_16 : decode cX7_pass 16 = .ok (.bipush (-4), 2) := by decide +kernel
theorem dX7_pass_18 : decode cX7_pass 18 = .ok (.putfield 42, 3) := by decide +kernel
theorem dX7_pass_21 : decode cX7_pass 21 = .ok (.iconst 0, 1) := by decide +kernel
theorem dX7_pass_22 : decode cX7_pass 22 = .ok (.istore 4, 2) := by decide +kernel
theorem dX7_pass_24 : decode cX7_pass 24 = .ok (.iload 4, 2) := by decide +kernel
theorem dX7_pass_26 : decode cX7_pass 26 = .ok (.bipush 6, 2) := by decide +kernel
theorem dX7_pass_28 : decode cX7_pass 28 = .ok (.if_icmp .ge 32, 3) := by decide +kernel
theorem dX7_pass_31 : decode cX7_pass 31 = .ok (.aload_n 0, 1) := by decide +kernel
theorem dX7_pass_32 : decode cX7_pass 32 = .ok (.getfield 9, 3) := by decide +kernel
theorem dX7_pass_35 : decode cX7_pass 35 = .ok (.iload 4, 2) := by decide +kernel
theorem dX7_pass_37 : decode cX7_pass 37 = .ok (.aload_n 1, 1) := by decide +kernel
theorem dX7_pass_38 : decode cX7_pass 38 = .ok (.getfield 45, 3) := by decide +kernel
theorem dX7_pass_41 : decode cX7_pass 41 = .ok (.iload 4, 2) := by decide +kernel
theorem dX7_pass_43 : decode cX7_pass 43 = .ok (.iaload, 1) := by decide +kernel
theorem dX7_pass_44 : decode cX7_pass 44 = .ok (.iastore, 1) := by decide +kernel
theorem dX7_pass_45 : decode cX7_pass 45 = .ok (.aload_n 0, 1) := by decide +kernel
theorem dX7_pass_46 : decode cX7_pass 46 = .ok (.getfield 15, 3) := by decide +kernel
theorem dX7_pass_49 : decode cX7_pass 49 = .ok (.iload 4, 2) := by decide +kernel
theorem dX7_pass_51 : decode cX7_pass 51 = .ok (.bipush (-4), 2) := by decide +kernel
theorem dX7_pass_53 : decode cX7_pass 53 = .ok (.iastore, 1) := by decide +kernel
theorem dX7_pass_54 : decode cX7_pass 54 = .ok (.iinc 4 1, 3) := by decide +kernel
theorem dX7_pass_57 : decode cX7_pass 57 = .ok (.goto (-33), 3) := by decide +kernel
theorem dX7_pass_60 : decode cX7_pass 60 = .ok (.aload_n 0, 1) := by decide +kernel
theorem dX7_pass_61 : decode cX7_pass 61 = .ok (.getfield 21, 3) := by decide +kernel
theorem dX7_pass_64 : decode cX7_pass 64 = .ok (.iconst 0, 1) := by decide +kernel
theorem dX7_pass_65 : decode cX7_pass 65 = .ok (.putfield 48, 3) := by decide +kernel
theorem dX7_pass_68 : decode cX7_pass 68 = .ok (.aload_n 0, 1) := by decide +kernel
theorem dX7_pass_69 : decode cX7_pass 69 = .ok (.getfield 21, 3) := by decide +kernel
theorem dX7_pass_72 : decode cX7_pass 72 = .ok (.aload_n 1, 1) := by decide +kernel
theorem dX7_pass_73 : decode cX7_pass 73 = .ok (.getfield 51, 3) := by decide +kernel
theorem dX7_pass_76 : decode cX7_pass 76 = .ok (.invokevirtual 54, 3) := by decide +kernel
theorem dX7_pass_79 : decode cX7_pass 79 = .ok (.iconst 0, 1) := by decide +kernel
theorem dX7_pass_80 : decode cX7_pass 80 = .ok (.istore 4, 2) := by decide +kernel
theorem dX7_pass_82 : decode cX7_pass 82 = .ok (.iload 4, 2) := by decide +kernel
theorem dX7_pass_84 : decode cX7_pass 84 = .ok (.iload_n 2, 1) := by decide +kernel
theorem dX7_pass_85 : decode cX7_pass 85 = .ok (.if_icmp .ge 55, 3) := by decide +kernel
theorem dX7_pass_88 : decode cX7_pass 88 = .ok (.aload_n 0, 1) := by decide +kernel
theorem dX7_pass_89 : decode cX7_pass 89 = .ok (.aload_n 1, 1) := by decide +kernel
theorem dX7_pass_90 : decode cX7_pass 90 = .ok (.getfield 51, 3) := by decide +kernel
theorem dX7_pass_93 : decode cX7_pass 93 = .ok (.invokevirtual 58, 3) := by decide +kernel
theorem dX7_pass_96 : decode cX7_pass 96 = .ok (.aload_n 0, 1) := by decide +kernel
theorem dX7_pass_97 : decode cX7_pass 97 = .ok (.iload 4, 2) := by decide +kernel
theorem dX7_pass_99 : decode cX7_pass 99 = .ok (.invokevirtual 61, 3) := by decide +kernel
theorem dX7_pass_102 : decode cX7_pass 102 = .ok (.aload_n 0, 1) := by decide +kernel
theorem dX7_pass_103 : decode cX7_pass 103 = .ok (.aload_n 1, 1) := by decide +kernel
theorem dX7_pass_104 : decode cX7_pass 104 = .ok (.invokevirtual 64, 3) := by decide +kernel
theorem dX7_pass_107 : decode cX7_pass 107 = .ok (.aload_n 0, 1) := by decide +kernel
theorem dX7_pass_108 : decode cX7_pass 108 = .ok (.aload_n 0, 1) := by decide +kernel
theorem dX7_pass_109 : decode cX7_pass 109 = .ok (.aload_n 1, 1) := by decide +kernel
theorem dX7_pass_110 : decode cX7_pass 110 = .ok (.getfield 51, 3) := by decide +kernel
theorem dX7_pass_113 : decode cX7_pass 113 = .ok (.invokevirtual 68, 3) := by decide +kernel
theorem dX7_pass_116 : decode cX7_pass 116 = .ok (.putfield 72, 3) := by decide +kernel
theorem dX7_pass_119 : decode cX7_pass 119 = .ok (.aload_n 0, 1) := by decide +kernel
theorem dX7_pass_120 : decode cX7_pass 120 = .ok (.aload_n 0, 1) := by decide +kernel
theorem dX7_pass_121 : decode cX7_pass 121 = .ok (.getfield 39, 3) := by decide +kernel
theorem dX7_pass_124 : decode cX7_pass 124 = .ok (.aload_n 0, 1) := by decide +kernel
theorem dX7_pass_125 : decode cX7_pass 125 = .ok (.getfield 72, 3) := by decide +kernel
theorem dX7_pass_128 : decode cX7_pass 128 = .ok (.invokestatic 75, 3) := by decide +kernel
theorem dX7_pass_131 : decode cX7_pass 131 = .ok (.putfield 39, 3) := by decide +kernel
theorem dX7_pass_134 : decode cX7_pass 134 = .ok (.iinc 4 1, 3) := by decide +kernel
theorem dX7_pass_137 : decode cX7_pass 137 = .ok (.goto (-55), 3) := by decide +kernel
theorem dX7_pass_140 : decode cX7_pass 140 = .ok (.return_, 1) := by decide +kernel
theorem dX7_draw_0 : decode cX7_draw 0 = .ok (.aload_n 0, 1) := by decide +kernel
theorem dX7_draw_1 : decode cX7_draw 1 = .ok (.aload_n 0, 1) := by decide +kernel
theorem dX7_draw_2 : decode cX7_draw 2 = .ok (.getfield 32, 3) := by decide +kernel
theorem dX7_draw_5 : decode cX7_draw 5 = .ok (.ldc 81, 2) := by decide +kernel
theorem dX7_draw_7 : decode cX7_draw 7 = .ok (.imul, 1) := by decide +kernel
theorem dX7_draw_8 : decode cX7_draw 8 = .ok (.sipush 12345, 3) := by decide +kernel
theorem dX7_draw_11 : decode cX7_draw 11 = .ok (.iadd, 1) := by decide +kernel
theorem dX7_draw_12 : decode cX7_draw 12 = .ok (.putfield 32, 3) := by decide +kernel
theorem dX7_draw_15 : decode cX7_draw 15 = .ok (.aload_n 0, 1) := by decide +kernel
theorem dX7_draw_16 : decode cX7_draw 16 = .ok (.getfield 32, 3) := by decide +kernel
theorem dX7_draw_19 : decode cX7_draw 19 = .ok (.bipush 16, 2) := by decide +kernel
theorem dX7_draw_21 : decode cX7_draw 21 = .ok (.iushr, 1) := by decide +kernel
theorem dX7_draw_22 : decode cX7_draw 22 = .ok (.sipush 32767, 3) := by decide +kernel
theorem dX7_draw_25 : decode cX7_draw 25 = .ok (.iand, 1) := by decide +kernel
theorem dX7_draw_26 : decode cX7_draw 26 = .ok (.istore_n 2, 1) := by decide +kernel
theorem dX7_draw_27 : decode cX7_draw 27 = .ok (.iload_n 1, 1) := by decide +kernel
theorem dX7_draw_28 : decode cX7_draw 28 = .ok (.ifCond .le 9, 3) := by decide +kernel
theorem dX7_draw_31 : decode cX7_draw 31 = .ok (.iload_n 2, 1) := by decide +kernel
theorem dX7_draw_32 : decode cX7_draw 32 = .ok (.iload_n 1, 1) := by decide +kernel
theorem dX7_draw_33 : decode cX7_draw 33 = .ok (.irem, 1) := by decide +kernel
theorem dX7_draw_34 : decode cX7_draw 34 = .ok (.goto 4, 3) := by decide +kernel
theorem dX7_draw_37 : decode cX7_draw 37 = .ok (.iconst 0, 1) := by decide +kernel
theorem dX7_draw_38 : decode cX7_draw 38 = .ok (.ireturn, 1) := by decide +kernel
theorem dX7_playSeason_0 : decode cX7_playSeason 0 = .ok (.iconst 0, 1) := by decide +kernel
theorem dX7_playSeason_1 : decode cX7_playSeason 1 = .ok (.istore_n 2, 1) := by decide +kernel
theorem dX7_playSeason_2 : decode cX7_playSeason 2 = .ok (.iload_n 2, 1) := by decide +kernel
theorem dX7_playSeason_3 : decode cX7_playSeason 3 = .ok (.aload_n 0, 1) := by decide +kernel
theorem dX7_playSeason_4 : decode cX7_playSeason 4 = .ok (.getfield 21, 3) := by decide +kernel
theorem dX7_playSeason_7 : decode cX7_playSeason 7 = .ok (.getfield 48, 3) := by decide +kernel
theorem dX7_playSeason_10 : decode cX7_playSeason 10 = .ok (.if_icmp .ge 65, 3) := by decide +kernel
theorem dX7_playSeason_13 : decode cX7_playSeason 13 = .ok (.aload_n 0, 1) := by decide +kernel
theorem dX7_playSeason_14 : decode cX7_playSeason 14 = .ok (.getfield 9, 3) := by decide +kernel
theorem dX7_playSeason_17 : decode cX7_playSeason 17 = .ok (.aload_n 0, 1) := by decide +kernel
theorem dX7_playSeason_18 : decode cX7_playSeason 18 = .ok (.getfield 21, 3) := by decide +kernel
theorem dX7_playSeason_21 : decode cX7_playSeason 21 = .ok (.getfield 82, 3) := by decide +kernel
theorem dX7_playSeason_24 : decode cX7_playSeason 24 = .ok (.iload_n 2, 1) := by decide +kernel
theorem dX7_playSeason_25 : decode cX7_playSeason 25 = .ok (.iaload, 1) := by decide +kernel
theorem dX7_playSeason_26 : decode cX7_playSeason 26 = .ok (.iaload, 1) := by decide +kernel
theorem dX7_playSeason_27 : decode cX7_playSeason 27 = .ok (.aload_n 0, 1) := by decide +kernel
theorem dX7_playSeason_28 : decode cX7_playSeason 28 = .ok (.getfield 9, 3) := by decide +kernel
theorem dX7_playSeason_31 : decode cX7_playSeason 31 = .ok (.aload_n 0, 1) := by decide +kernel
theorem dX7_playSeason_32 : decode cX7_playSeason 32 = .ok (.getfield 21, 3) := by decide +kernel
theorem dX7_playSeason_35 : decode cX7_playSeason 35 = .ok (.getfield 85, 3) := by decide +kernel
theorem dX7_playSeason_38 : decode cX7_playSeason 38 = .ok (.iload_n 2, 1) := by decide +kernel
theorem dX7_playSeason_39 : decode cX7_playSeason 39 = .ok (.iaload, 1) := by decide +kernel
theorem dX7_playSeason_40 : decode cX7_playSeason 40 = .ok (.iaload, 1) := by decide +kernel
theorem dX7_playSeason_41 : decode cX7_playSeason 41 = .ok (.invokestatic 88, 3) := by decide +kernel
theorem dX7_playSeason_44 : decode cX7_playSeason 44 = .ok (.istore_n 3, 1) := by decide +kernel
theorem dX7_playSeason_45 : decode cX7_playSeason 45 = .ok (.aload_n 0, 1) := by decide +kernel
theorem dX7_playSeason_46 : decode cX7_playSeason 46 = .ok (.getfield 21, 3) := by decide +kernel
theorem dX7_playSeason_49 : decode cX7_playSeason 49 = .ok (.getfield 91, 3) := by decide +kernel
theorem dX7_playSeason_52 : decode cX7_playSeason 52 = .ok (.iload_n 2, 1) := by decide +kernel
theorem dX7_playSeason_53 : decode cX7_playSeason 53 = .ok (.aload_n 0, 1) := by decide +kernel
theorem dX7_playSeason_54 : decode cX7_playSeason 54 = .ok (.bipush 16, 2) := by decide +kernel
theorem dX7_playSeason_56 : decode cX7_playSeason 56 = .ok (.invokevirtual 94, 3) := by decide +kernel
theorem dX7_playSeason_59 : decode cX7_playSeason 59 = .ok (.iload_n 3, 1) := by decide +kernel
theorem dX7_playSeason_60 : decode cX7_playSeason 60 = .ok (.if_icmp .ge 7, 3) := by decide +kernel
theorem dX7_playSeason_63 : decode cX7_playSeason 63 = .ok (.iconst 0, 1) := by decide +kernel
theorem dX7_playSeason_64 : decode cX7_playSeason 64 = .ok (.goto 4, 3) := by decide +kernel
theorem dX7_playSeason_67 : decode cX7_playSeason 67 = .ok (.iconst 1, 1) := by decide +kernel
theorem dX7_playSeason_68 : decode cX7_playSeason 68 = .ok (.iastore, 1) := by decide +kernel
theorem dX7_playSeason_69 : decode cX7_playSeason 69 = .ok (.iinc 2 1, 3) := by decide +kernel
theorem dX7_playSeason_72 : decode cX7_playSeason 72 = .ok (.goto (-70), 3) := by decide +kernel
theorem dX7_playSeason_75 : decode cX7_playSeason 75 = .ok (.aload_n 0, 1) := by decide +kernel
theorem dX7_playSeason_76 : decode cX7_playSeason 76 = .ok (.getfield 28, 3) := by decide +kernel
theorem dX7_playSeason_79 : decode cX7_playSeason 79 = .ok (.aload_n 0, 1) := by decide +kernel
theorem dX7_playSeason_80 : decode cX7_playSeason 80 = .ok (.getfield 21, 3) := by decide +kernel
theorem dX7_playSeason_83 : decode cX7_playSeason 83 = .ok (.iload_n 1, 1) := by decide +kernel
theorem dX7_playSeason_84 : decode cX7_playSeason 84 = .ok (.invokevirtual 97, 3) := by decide +kernel
theorem dX7_playSeason_87 : decode cX7_playSeason 87 = .ok (.return_, 1) := by decide +kernel
theorem dX7_noteEnds_0 : decode cX7_noteEnds 0 = .ok (.aload_n 0, 1) := by decide +kernel
theorem dX7_noteEnds_1 : decode cX7_noteEnds 1 = .ok (.aload_n 0, 1) := by decide +kernel
theorem dX7_noteEnds_2 : decode cX7_noteEnds 2 = .ok (.getfield 28, 3) := by decide +kernel
theorem dX7_noteEnds_5 : decode cX7_noteEnds 5 = .ok (.getfield 101, 3) := by decide +kernel
theorem dX7_noteEnds_8 : decode cX7_noteEnds 8 = .ok (.iconst 0, 1) := by decide +kernel
theorem dX7_noteEnds_9 : decode cX7_noteEnds 9 = .ok (.iaload, 1) := by decide +kernel
theorem dX7_noteEnds_10 : decode cX7_noteEnds 10 = .ok (.putfield 104, 3) := by decide +kernel
theorem dX7_noteEnds_13 : decode cX7_noteEnds 13 = .ok (.aload_n 0, 1) := by decide +kernel
theorem dX7_noteEnds_14 : decode cX7_noteEnds 14 = .ok (.dup, 1) := by decide +kernel
theorem dX7_noteEnds_15 : decode cX7_noteEnds 15 = .ok (.getfield 36, 3) := by decide +kernel
theorem dX7_noteEnds_18 : decode cX7_noteEnds 18 = .ok (.iconst 1, 1) := by decide +kernel
theorem dX7_noteEnds_19 : decode cX7_noteEnds 19 = .ok (.aload_n 0, 1) := by decide +kernel
theorem dX7_noteEnds_20 : decode cX7_noteEnds 20 = .ok (.getfield 104, 3) := by decide +kernel
theorem dX7_noteEnds_23 : decode cX7_noteEnds 23 = .ok (.ishl, 1) := by decide +kernel
theorem dX7_noteEnds_24 : decode cX7_noteEnds 24 = .ok (.ior, 1) := by decide +kernel
theorem dX7_noteEnds_25 : decode cX7_noteEnds 25 = .ok (.putfield 36, 3) := by decide +kernel
theorem dX7_noteEnds_28 : decode cX7_noteEnds 28 = .ok (.aload_n 0, 1) := by decide +kernel
theorem dX7_noteEnds_29 : decode cX7_noteEnds 29 = .ok (.getfield 15, 3) := by decide +kernel
theorem dX7_noteEnds_32 : decode cX7_noteEnds 32 = .ok (.aload_n 0, 1) := by decide +kernel
theorem dX7_noteEnds_33 : decode cX7_noteEnds 33 = .ok (.getfield 104, 3) := by decide +kernel
theorem dX7_noteEnds_36 : decode cX7_noteEnds 36 = .ok (.iaload, 1) := by decide +kernel
theorem dX7_noteEnds_37 : decode cX7_noteEnds 37 = .ok (.bipush (-4), 2) := by decide +kernel
theorem dX7_noteEnds_39 : decode cX7_noteEnds 39 = .ok (.if_icmp .eq 40, 3) := by decide +kernel
theorem dX7_noteEnds_42 : decode cX7_noteEnds 42 = .ok (.iload_n 1, 1) := by decide +kernel
theorem dX7_noteEnds_43 : decode cX7_noteEnds 43 = .ok (.aload_n 0, 1) := by decide +kernel
theorem dX7_noteEnds_44 : decode cX7_noteEnds 44 = .ok (.getfield 15, 3) := by decide +kernel
theorem dX7_noteEnds_47 : decode cX7_noteEnds 47 = .ok (.aload_n 0, 1) := by decide +kernel
theorem dX7_noteEnds_48 : decode cX7_noteEnds 48 = .ok (.getfield 104, 3) := by decide +kernel
theorem dX7_noteEnds_51 : decode cX7_noteEnds 51 = .ok (.iaload, 1) := by decide +kernel
theorem dX7_noteEnds_52 : decode cX7_noteEnds 52 = .ok (.isub, 1) := by decide +kernel
theorem dX7_noteEnds_53 : decode cX7_noteEnds 53 = .ok (.istore_n 2, 1) := by decide +kernel
theorem dX7_noteEnds_54 : decode cX7_noteEnds 54 = .ok (.aload_n 0, 1) := by decide +kernel
theorem dX7_noteEnds_55 : decode cX7_noteEnds 55 = .ok (.aload_n 0, 1) := by decide +kernel
theorem dX7_noteEnds_56 : decode cX7_noteEnds 56 = .ok (.getfield 42, 3) := by decide +kernel
theorem dX7_noteEnds_59 : decode cX7_noteEnds 59 = .ok (.bipush (-4), 2) := by decide +kernel
theorem dX7_noteEnds_61 : decode cX7_noteEnds 61 = .ok (.if_icmp .ne 7, 3) := by decide +kernel
theorem dX7_noteEnds_64 : decode cX7_noteEnds 64 = .ok (.iload_n 2, 1) := by decide +kernel
theorem dX7_noteEnds_65 : decode cX7_noteEnds 65 = .ok (.goto 11, 3) := by decide +kernel
theorem dX7_noteEnds_68 : decode cX7_noteEnds 68 = .ok (.aload_n 0, 1) := by decide +kernel
theorem dX7_noteEnds_69 : decode cX7_noteEnds 69 = .ok (.getfield 42, 3) := by decide +kernel
theorem dX7_noteEnds_72 : decode cX7_noteEnds 72 = .ok (.iload_n 2, 1) := by decide +kernel
theorem dX7_noteEnds_73 : decode cX7_noteEnds 73 = .ok (.invokestatic 107, 3) := by decide +kernel
theorem dX7_noteEnds_76 : decode cX7_noteEnds 76 = .ok (.putfield 42, 3) := by decide +kernel
theorem dX7_noteEnds_79 : decode cX7_noteEnds 79 = .ok (.aload_n 0, 1) := by decide +kernel
theorem dX7_noteEnds_80 : decode cX7_noteEnds 80 = .ok (.getfield 15, 3) := by decide +kernel
theorem dX7_noteEnds_83 : decode cX7_noteEnds 83 = .ok (.aload_n 0, 1) := by decide +kernel
theorem dX7_noteEnds_84 : decode cX7_noteEnds 84 = .ok (.getfield 28, 3) := by decide +kernel
theorem dX7_noteEnds_87 : decode cX7_noteEnds 87 = .ok (.iconst 0, 1) := by decide +kernel
theorem dX7_noteEnds_88 : decode cX7_noteEnds 88 = .ok (.invokevirtual 110, 3) := by decide +kernel
theorem dX7_noteEnds_91 : decode cX7_noteEnds 91 = .ok (.iload_n 1, 1) := by decide +kernel
theorem dX7_noteEnds_92 : decode cX7_noteEnds 92 = .ok (.iastore, 1) := by decide +kernel
theorem dX7_noteEnds_93 : decode cX7_noteEnds 93 = .ok (.return_, 1) := by decide +kernel
theorem dX7_shareBoys_0 : decode cX7_shareBoys 0 = .ok (.aload_n 0, 1) := by decide +kernel
theorem dX7_shareBoys_1 : decode cX7_shareBoys 1 = .ok (.getfield 28, 3) := by decide +kernel
theorem dX7_shareBoys_4 : decode cX7_shareBoys 4 = .ok (.aload_n 0, 1) := by decide +kernel
theorem dX7_shareBoys_5 : decode cX7_shareBoys 5 = .ok (.getfield 21, 3) := by decide +kernel
theorem dX7_shareBoys_8 : decode cX7_shareBoys 8 = .ok (.invokevirtual 113, 3) := by decide +kernel
theorem dX7_shareBoys_11 : decode cX7_shareBoys 11 = .ok (.aload_n 0, 1) := by decide +kernel
theorem dX7_shareBoys_12 : decode cX7_shareBoys 12 = .ok (.getfield 28, 3) := by decide +kernel
theorem dX7_shareBoys_15 : decode cX7_shareBoys 15 = .ok (.aload_n 1, 1) := by decide +kernel
theorem dX7_shareBoys_16 : decode cX7_shareBoys 16 = .ok (.aload_n 1, 1) := by decide +kernel
theorem dX7_shareBoys_17 : decode cX7_shareBoys 17 = .ok (.getfield 117, 3) := by decide +kernel
theorem dX7_shareBoys_20 : decode cX7_shareBoys 20 = .ok (.iconst 1, 1) := by decide +kernel
theorem dX7_shareBoys_21 : decode cX7_shareBoys 21 = .ok (.if_icmp .ne 11, 3) := by decide +kernel
theorem dX7_shareBoys_24 : decode cX7_shareBoys 24 = .ok (.aload_n 0, 1) := by decide +kernel
theorem dX7_shareBoys_25 : decode cX7_shareBoys 25 = .ok (.aload_n 1, 1) := by decide +kernel
theorem dX7_shareBoys_26 : decode cX7_shareBoys 26 = .ok (.invokevirtual 120, 3) := by decide +kernel
theorem dX7_shareBoys_29 : decode cX7_shareBoys 29 = .ok (.goto 4, 3) := by decide +kernel
theorem dX7_shareBoys_32 : decode cX7_shareBoys 32 = .ok (.iconst 0, 1) := by decide +kernel
theorem dX7_shareBoys_33 : decode cX7_shareBoys 33 = .ok (.invokevirtual 124, 3) := by decide +kernel
theorem dX7_shareBoys_36 : decode cX7_shareBoys 36 = .ok (.iconst 0, 1) := by decide +kernel
theorem dX7_shareBoys_37 : decode cX7_shareBoys 37 = .ok (.istore_n 2, 1) := by decide +kernel
theorem dX7_shareBoys_38 : decode cX7_shareBoys 38 = .ok (.iload_n 2, 1) := by decide +kernel
theorem dX7_shareBoys_39 : decode cX7_shareBoys 39 = .ok (.aload_n 1, 1) := by decide +kernel
theorem dX7_shareBoys_40 : decode cX7_shareBoys 40 = .ok (.getfield 51, 3) := by decide +kernel
theorem dX7_shareBoys_43 : decode cX7_shareBoys 43 = .ok (.if_icmp .ge 56, 3) := by decide +kernel
theorem dX7_shareBoys_46 : decode cX7_shareBoys 46 = .ok (.aload_n 0, 1) := by decide +kernel
theorem dX7_shareBoys_47 : decode cX7_shareBoys 47 = .ok (.getfield 28, 3) := by decide +kernel
theorem dX7_shareBoys_50 : decode cX7_shareBoys 50 = .ok (.getfield 128, 3) := by decide +kernel
theorem dX7_shareBoys_53 : decode cX7_shareBoys 53 = .ok (.iload_n 2, 1) := by decide +kernel
theorem dX7_shareBoys_54 : decode cX7_shareBoys 54 = .ok (.iaload, 1) := by decide +kernel
theorem dX7_shareBoys_55 : decode cX7_shareBoys 55 = .ok (.istore_n 3, 1) := by decide +kernel
theorem dX7_shareBoys_56 : decode cX7_shareBoys 56 = .ok (.aload_n 0, 1) := by decide +kernel
theorem dX7_shareBoys_57 : decode cX7_shareBoys 57 = .ok (.getfield 9, 3) := by decide +kernel
theorem dX7_shareBoys_60 : decode cX7_shareBoys 60 = .ok (.iload_n 3, 1) := by decide +kernel
theorem dX7_shareBoys_61 : decode cX7_shareBoys 61 = .ok (.iaload, 1) := by decide +kernel
theorem dX7_shareBoys_62 : decode cX7_shareBoys 62 = .ok (.aload_n 1, 1) := by decide +kernel
theorem dX7_shareBoys_63 : decode cX7_shareBoys 63 = .ok (.getfield 131, 3) := by decide +kernel
theorem dX7_shareBoys_66 : decode cX7_shareBoys 66 = .ok (.iload_n 2, 1) := by decide +kernel
theorem dX7_shareBoys_67 : decode cX7_shareBoys 67 = .ok (.iaload, 1) := by decide +kernel
theorem dX7_shareBoys_68 : decode cX7_shareBoys 68 = .ok (.bipush 10, 2) := by decide +kernel
theorem dX7_shareBoys_70 : decode cX7_shareBoys 70 = .ok (.idiv, 1) := by decide +kernel
theorem dX7_shareBoys_71 : decode cX7_shareBoys 71 = .ok (.iadd, 1) := by decide +kernel
theorem dX7_shareBoys_72 : decode cX7_shareBoys 72 = .ok (.iconst 1, 1) := by decide +kernel
theorem dX7_shareBoys_73 : decode cX7_shareBoys 73 = .ok (.isub, 1) := by decide +kernel
theorem dX7_shareBoys_74 : decode cX7_shareBoys 74 = .ok (.istore 4, 2) := by decide +kernel
theorem dX7_shareBoys_76 : decode cX7_shareBoys 76 = .ok (.aload_n 0, 1) := by decide +kernel
theorem dX7_shareBoys_77 : decode cX7_shareBoys 77 = .ok (.getfield 9, 3) := by decide +kernel
theorem dX7_shareBoys_80 : decode cX7_shareBoys 80 = .ok (.iload_n 3, 1) := by decide +kernel
theorem dX7_shareBoys_81 : decode cX7_shareBoys 81 = .ok (.iconst 1, 1) := by decide +kernel
theorem dX7_shareBoys_82 : decode cX7_shareBoys 82 = .ok (.bipush 9, 2) := by decide +kernel
theorem dX7_shareBoys_84 : decode cX7_shareBoys 84 = .ok (.iload 4, 2) := by decide +kernel
theorem dX7_shareBoys_86 : decode cX7_shareBoys 86 = .ok (.invokestatic 107, 3) := by decide +kernel
theorem dX7_shareBoys_89 : decode cX7_shareBoys 89 = .ok (.invokestatic 75, 3) := by decide +kernel
theorem dX7_shareBoys_92 : decode cX7_shareBoys 92 = .ok (.iastore, 1) := by decide +kernel
theorem dX7_shareBoys_93 : decode cX7_shareBoys 93 = .ok (.iinc 2 1, 3) := by decide +kernel
theorem dX7_shareBoys_96 : decode cX7_shareBoys 96 = .ok (.goto (-58), 3) := by decide +kernel
theorem dX7_shareBoys_99 : decode cX7_shareBoys 99 = .ok (.return_, 1) := by decide +kernel
theorem dX7_drawBall_0 : decode cX7_drawBall 0 = .ok (.aload_n 0, 1) := by decide +kernel
theorem dX7_drawBall_1 : decode cX7_drawBall 1 = .ok (.aload_n 1, 1) := by decide +kernel
theorem dX7_drawBall_2 : decode cX7_drawBall 2 = .ok (.invokevirtual 134, 3) := by decide +kernel
theorem dX7_drawBall_5 : decode cX7_drawBall 5 = .ok (.invokevirtual 94, 3) := by decide +kernel
theorem dX7_drawBall_8 : decode cX7_drawBall 8 = .ok (.istore_n 2, 1) := by decide +kernel
theorem dX7_drawBall_9 : decode cX7_drawBall 9 = .ok (.iconst 0, 1) := by decide +kernel
theorem dX7_drawBall_10 : decode cX7_drawBall 10 = .ok (.istore_n 3, 1) := by decide +kernel
theorem dX7_drawBall_11 : decode cX7_drawBall 11 = .ok (.iload_n 3, 1) := by decide +kernel
theorem dX7_drawBall_12 : decode cX7_drawBall 12 = .ok (.aload_n 1, 1) := by decide +kernel
theorem dX7_drawBall_13 : decode cX7_drawBall 13 = .ok (.getfield 51, 3) := by decide +kernel
theorem dX7_drawBall_16 : decode cX7_drawBall 16 = .ok (.if_icmp .ge 37, 3) := by decide +kernel
theorem dX7_drawBall_19 : decode cX7_drawBall 19 = .ok (.iload_n 2, 1) := by decide +kernel
theorem dX7_drawBall_20 : decode cX7_drawBall 20 = .ok (.aload_n 1, 1) := by decide +kernel
theorem dX7_drawBall_21 : decode cX7_drawBall 21 = .ok (.getfield 138, 3) := by decide +kernel
theorem dX7_drawBall_24 : decode cX7_drawBall 24 = .ok (.iload_n 3, 1) := by decide +kernel
theorem dX7_drawBall_25 : decode cX7_drawBall 25 = .ok (.iaload, 1) := by decide +kernel
theorem dX7_drawBall_26 : decode cX7_drawBall 26 = .ok (.if_icmp .ge 12, 3) := by decide +kernel
theorem dX7_drawBall_29 : decode cX7_drawBall 29 = .ok (.aload_n 0, 1) := by decide +kernel
theorem dX7_drawBall_30 : decode cX7_drawBall 30 = .ok (.getfield 28, 3) := by decide +kernel
theorem dX7_drawBall_33 : decode cX7_drawBall 33 = .ok (.iload_n 3, 1) := by decide +kernel
theorem dX7_drawBall_34 : decode cX7_drawBall 34 = .ok (.invokevirtual 110, 3) := by decide +kernel
theorem dX7_drawBall_37 : decode cX7_drawBall 37 = .ok (.ireturn, 1) := by decide +kernel
theorem dX7_drawBall_38 : decode cX7_drawBall 38 = .ok (.iload_n 2, 1) := by decide +kernel
theorem dX7_drawBall_39 : decode cX7_drawBall 39 = .ok (.aload_n 1, 1) := by decide +kernel
theorem dX7_drawBall_40 : decode cX7_drawBall 40 = .ok (.getfield 138, 3) := by decide +kernel
theorem dX7_drawBall_43 : decode cX7_drawBall 43 = .ok (.iload_n 3, 1) := by decide +kernel
theorem dX7_drawBall_44 : decode cX7_drawBall 44 = .ok (.iaload, 1) := by decide +kernel
theorem dX7_drawBall_45 : decode cX7_drawBall 45 = .ok (.isub, 1) := by decide +kernel
theorem dX7_drawBall_46 : decode cX7_drawBall 46 = .ok (.istore_n 2, 1) := by decide +kernel
theorem dX7_drawBall_47 : decode cX7_drawBall 47 = .ok (.iinc 3 1, 3) := by decide +kernel
theorem dX7_drawBall_50 : decode cX7_drawBall 50 = .ok (.goto (-39), 3) := by decide +kernel
theorem dX7_drawBall_53 : decode cX7_drawBall 53 = .ok (.aload_n 0, 1) := by decide +kernel
theorem dX7_drawBall_54 : decode cX7_drawBall 54 = .ok (.getfield 28, 3) := by decide +kernel
theorem dX7_drawBall_57 : decode cX7_drawBall 57 = .ok (.iconst 0, 1) := by decide +kernel
theorem dX7_drawBall_58 : decode cX7_drawBall 58 = .ok (.invokevirtual 110, 3) := by decide +kernel
theorem dX7_drawBall_61 : decode cX7_drawBall 61 = .ok (.ireturn, 1) := by decide +kernel
theorem dX7_gapOf_0 : decode cX7_gapOf 0 = .ok (.aload_n 0, 1) := by decide +kernel
theorem dX7_gapOf_1 : decode cX7_gapOf 1 = .ok (.getfield 9, 3) := by decide +kernel
theorem dX7_gapOf_4 : decode cX7_gapOf 4 = .ok (.iconst 0, 1) := by decide +kernel
theorem dX7_gapOf_5 : decode cX7_gapOf 5 = .ok (.iaload, 1) := by decide +kernel
theorem dX7_gapOf_6 : decode cX7_gapOf 6 = .ok (.istore_n 2, 1) := by decide +kernel
theorem dX7_gapOf_7 : decode cX7_gapOf 7 = .ok (.aload_n 0, 1) := by decide +kernel
theorem dX7_gapOf_8 : decode cX7_gapOf 8 = .ok (.getfield 9, 3) := by decide +kernel
theorem dX7_gapOf_11 : decode cX7_gapOf 11 = .ok (.iconst 0, 1) := by decide +kernel
theorem dX7_gapOf_12 : decode cX7_gapOf 12 = .ok (.iaload, 1) := by decide +kernel
theorem dX7_gapOf_13 : decode cX7_gapOf 13 = .ok (.istore_n 3, 1) := by decide +kernel
theorem dX7_gapOf_14 : decode cX7_gapOf 14 = .ok (.iconst 1, 1) := by decide +kernel
theorem dX7_gapOf_15 : decode cX7_gapOf 15 = .ok (.istore 4, 2) := by decide +kernel
theorem dX7_gapOf_17 : decode cX7_gapOf 17 = .ok (.iload 4, 2) := by decide +kernel
theorem dX7_gapOf_19 : decode cX7_gapOf 19 = .ok (.iload_n 1, 1) := by decide +kernel
theorem dX7_gapOf_20 : decode cX7_gapOf 20 = .ok (.if_icmp .ge 33, 3) := by decide +kernel
theorem dX7_gapOf_23 : decode cX7_gapOf 23 = .ok (.iload_n 2, 1) := by decide +kernel
theorem dX7_gapOf_24 : decode cX7_gapOf 24 = .ok (.aload_n 0, 1) := by decide +kernel
theorem dX7_gapOf_25 : decode cX7_gapOf 25 = .ok (.getfield 9, 3) := by decide +kernel
theorem dX7_gapOf_28 : decode cX7_gapOf 28 = .ok (.iload 4, 2) := by decide +kernel
theorem dX7_gapOf_30 : decode cX7_gapOf 30 = .ok (.iaload, 1) := by decide +kernel
theorem dX7_gapOf_31 : decode cX7_gapOf 31 = .ok (.invokestatic 107, 3) := by decide +kernel
theorem dX7_gapOf_34 : decode cX7_gapOf 34 = .ok (.istore_n 2, 1) := by decide +kernel
theorem dX7_gapOf_35 : decode cX7_gapOf 35 = .ok (.iload_n 3, 1) := by decide +kernel
theorem dX7_gapOf_36 : decode cX7_gapOf 36 = .ok (.aload_n 0, 1) := by decide +kernel
theorem dX7_gapOf_37 : decode cX7_gapOf 37 = .ok (.getfield 9, 3) := by decide +kernel
theorem dX7_gapOf_40 : decode cX7_gapOf 40 = .ok (.iload 4, 2) := by decide +kernel
theorem dX7_gapOf_42 : decode cX7_gapOf 42 = .ok (.iaload, 1) := by decide +kernel
theorem dX7_gapOf_43 : decode cX7_gapOf 43 = .ok (.invokestatic 75, 3) := by decide +kernel
theorem dX7_gapOf_46 : decode cX7_gapOf 46 = .ok (.istore_n 3, 1) := by decide +kernel
theorem dX7_gapOf_47 : decode cX7_gapOf 47 = .ok (.iinc 4 1, 3) := by decide +kernel
theorem dX7_gapOf_50 : decode cX7_gapOf 50 = .ok (.goto (-33), 3) := by decide +kernel
theorem dX7_gapOf_53 : decode cX7_gapOf 53 = .ok (.iload_n 3, 1) := by decide +kernel
theorem dX7_gapOf_54 : decode cX7_gapOf 54 = .ok (.iload_n 2, 1) := by decide +kernel
theorem dX7_gapOf_55 : decode cX7_gapOf 55 = .ok (.isub, 1) := by decide +kernel
theorem dX7_gapOf_56 : decode cX7_gapOf 56 = .ok (.ireturn, 1) := by decide +kernel
theorem dJ6_bitCount_0f7a4_0 : decode cJ6_bitCount_0f7a4 0 = .ok (.iload_n 0, 1) := by decide +kernel
theorem dJ6_bitCount_0f7a4_1 : decode cJ6_bitCount_0f7a4 1 = .ok (.iload_n 0, 1) := by decide +kernel
theorem dJ6_bitCount_0f7a4_2 : decode cJ6_bitCount_0f7a4 2 = .ok (.iconst 1, 1) := by decide +kernel
theorem dJ6_bitCount_0f7a4_3 : decode cJ6_bitCount_0f7a4 3 = .ok (.iushr, 1) := by decide +kernel
theorem dJ6_bitCount_0f7a4_4 : decode cJ6_bitCount_0f7a4 4 = .ok (.ldc_w 265, 3) := by decide +kernel
theorem dJ6_bitCount_0f7a4_7 : decode cJ6_bitCount_0f7a4 7 = .ok (.iand, 1) := by decide +kernel
theorem dJ6_bitCount_0f7a4_8 : decode cJ6_bitCount_0f7a4 8 = .ok (.isub, 1) := by decide +kernel
theorem dJ6_bitCount_0f7a4_9 : decode cJ6_bitCount_0f7a4 9 = .ok (.istore_n 0, 1) := by decide +kernel
theorem dJ6_bitCount_0f7a4_10 : decode cJ6_bitCount_0f7a4 10 = .ok (.iload_n 0, 1) := by decide +kernel
theorem dJ6_bitCount_0f7a4_11 : decode cJ6_bitCount_0f7a4 11 = .ok (.ldc_w 266, 3) := by decide +kernel
theorem dJ6_bitCount_0f7a4_14 : decode cJ6_bitCount_0f7a4 14 = .ok (.iand, 1) := by decide +kernel
theorem dJ6_bitCount_0f7a4_15 : decode cJ6_bitCount_0f7a4 15 = .ok (.iload_n 0, 1) := by decide +kernel
theorem dJ6_bitCount_0f7a4_16 : decode cJ6_bitCount_0f7a4 16 = .ok (.iconst 2, 1) := by decide +kernel
theorem dJ6_bitCount_0f7a4_17 : decode cJ6_bitCount_0f7a4 17 = .ok (.iushr, 1) := by decide +kernel
theorem dJ6_bitCount_0f7a4_18 : decode cJ6_bitCount_0f7a4 18 = .ok (.ldc_w 266, 3) := by decide +kernel
theorem dJ6_bitCount_0f7a4_21 : decode cJ6_bitCount_0f7a4 21 = .ok (.iand, 1) := by decide +kernel
theorem dJ6_bitCount_0f7a4_22 : decode cJ6_bitCount_0f7a4 22 = .ok (.iadd, 1) := by decide +kernel
theorem dJ6_bitCount_0f7a4_23 : decode cJ6_bitCount_0f7a4 23 = .ok (.istore_n 0, 1) := by decide +kernel
theorem dJ6_bitCount_0f7a4_24 : decode cJ6_bitCount_0f7a4 24 = .ok (.iload_n 0, 1) := by decide +kernel
theorem dJ6_bitCount_0f7a4_25 : decode cJ6_bitCount_0f7a4 25 = .ok (.iload_n 0, 1) := by decide +kernel
theorem dJ6_bitCount_0f7a4_26 : decode cJ6_bitCount_0f7a4 26 = .ok (.iconst 4, 1) := by decide +kernel
theorem dJ6_bitCount_0f7a4_27 : decode cJ6_bitCount_0f7a4 27 = .ok (.iushr, 1) := by decide +kernel
theorem dJ6_bitCount_0f7a4_28 : decode cJ6_bitCount_0f7a4 28 = .ok (.iadd, 1) := by decide +kernel
theorem dJ6_bitCount_0f7a4_29 : decode cJ6_bitCount_0f7a4 29 = .ok (.ldc_w 267, 3) := by decide +kernel
theorem dJ6_bitCount_0f7a4_32 : decode cJ6_bitCount_0f7a4 32 = .ok (.iand, 1) := by decide +kernel
theorem dJ6_bitCount_0f7a4_33 : decode cJ6_bitCount_0f7a4 33 = .ok (.istore_n 0, 1) := by decide +kernel
theorem dJ6_bitCount_0f7a4_34 : decode cJ6_bitCount_0f7a4 34 = .ok (.iload_n 0, 1) := by decide +kernel
theorem dJ6_bitCount_0f7a4_35 : decode cJ6_bitCount_0f7a4 35 = .ok (.iload_n 0, 1) := by decide +kernel
theorem dJ6_bitCount_0f7a4_36 : decode cJ6_bitCount_0f7a4 36 = .ok (.bipush 8, 2) := by decide +kernel
theorem dJ6_bitCount_0f7a4_38 : decode cJ6_bitCount_0f7a4 38 = .ok (.iushr, 1) := by decide +kernel
theorem dJ6_bitCount_0f7a4_39 : decode cJ6_bitCount_0f7a4 39 = .ok (.iadd, 1) := by decide +kernel
theorem dJ6_bitCount_0f7a4_40 : decode cJ6_bitCount_0f7a4 40 = .ok (.istore_n 0, 1) := by decide +kernel
theorem dJ6_bitCount_0f7a4_41 : decode cJ6_bitCount_0f7a4 41 = .ok (.iload_n 0, 1) := by decide +kernel
theorem dJ6_bitCount_0f7a4_42 : decode cJ6_bitCount_0f7a4 42 = .ok (.iload_n 0, 1) := by decide +kernel
theorem dJ6_bitCount_0f7a4_43 : decode cJ6_bitCount_0f7a4 43 = .ok (.bipush 16, 2) := by decide +kernel
theorem dJ6_bitCount_0f7a4_45 : decode cJ6_bitCount_0f7a4 45 = .ok (.iushr, 1) := by decide +kernel
theorem dJ6_bitCount_0f7a4_46 : decode cJ6_bitCount_0f7a4 46 = .ok (.iadd, 1) := by decide +kernel
theorem dJ6_bitCount_0f7a4_47 : decode cJ6_bitCount_0f7a4 47 = .ok (.istore_n 0, 1) := by decide +kernel
theorem dJ6_bitCount_0f7a4_48 : decode cJ6_bitCount_0f7a4 48 = .ok (.iload_n 0, 1) := by decide +kernel
theorem dJ6_bitCount_0f7a4_49 : decode cJ6_bitCount_0f7a4 49 = .ok (.bipush 63, 2) := by decide +kernel
theorem dJ6_bitCount_0f7a4_51 : decode cJ6_bitCount_0f7a4 51 = .ok (.iand, 1) := by decide +kernel
theorem dJ6_bitCount_0f7a4_52 : decode cJ6_bitCount_0f7a4 52 = .ok (.ireturn, 1) := by decide +kernel
theorem dJ0_length_8abf5_0 : decode cJ0_length_8abf5 0 = .ok (.aload_n 0, 1) := by decide +kernel
theorem dJ0_length_8abf5_1 : decode cJ0_length_8abf5 1 = .ok (.getfield 9, 3) := by decide +kernel
theorem dJ0_length_8abf5_4 : decode cJ0_length_8abf5 4 = .ok (.arraylength, 1) := by decide +kernel
theorem dJ0_length_8abf5_5 : decode cJ0_length_8abf5 5 = .ok (.aload_n 0, 1) := by decide +kernel
theorem dJ0_length_8abf5_6 : decode cJ0_length_8abf5 6 = .ok (.invokevirtual 335, 3) := by decide +kernel
theorem dJ0_length_8abf5_9 : decode cJ0_length_8abf5 9 = .ok (.ishr, 1) := by decide +kernel
theorem dJ0_length_8abf5_10 : decode cJ0_length_8abf5 10 = .ok (.ireturn, 1) := by decide +kernel
theorem dJ0_charAt_5068e_0 : decode cJ0_charAt_5068e 0 = .ok (.aload_n 0, 1) := by decide +kernel
theorem dJ0_charAt_5068e_1 : decode cJ0_charAt_5068e 1 = .ok (.invokevirtual 492, 3) := by decide +kernel
theorem dJ0_charAt_5068e_4 : decode cJ0_charAt_5068e 4 = .ok (.ifCond .eq 12, 3) := by decide +kernel
theorem dJ0_charAt_5068e_7 : decode cJ0_charAt_5068e 7 = .ok (.aload_n 0, 1) := by decide +kernel
theorem dJ0_charAt_5068e_8 : decode cJ0_charAt_5068e 8 = .ok (.getfield 9, 3) := by decide +kernel
theorem dJ0_charAt_5068e_11 : decode cJ0_charAt_5068e 11 = .ok (.iload_n 1, 1) := by decide +kernel
theorem dJ0_charAt_5068e_12 : decode cJ0_charAt_5068e 12 = .ok (.invokestatic 495, 3) := by decide +kernel
theorem dJ0_charAt_5068e_15 : decode cJ0_charAt_5068e 15 = .ok (.ireturn, 1) := by decide +kernel
theorem dJ0_charAt_5068e_16 : decode cJ0_charAt_5068e 16 = .ok (.aload_n 0, 1) := by decide +kernel
theorem dJ0_charAt_5068e_17 : decode cJ0_charAt_5068e 17 = .ok (.getfield 9, 3) := by decide +kernel
theorem dJ0_charAt_5068e_20 : decode cJ0_charAt_5068e 20 = .ok (.iload_n 1, 1) := by decide +kernel
theorem dJ0_charAt_5068e_21 : decode cJ0_charAt_5068e 21 = .ok (.invokestatic 498, 3) := by decide +kernel
theorem dJ0_charAt_5068e_24 : decode cJ0_charAt_5068e 24 = .ok (.ireturn, 1) := by decide +kernel
theorem dJ0_coder_7d493_0 : decode cJ0_coder_7d493 0 = .ok (.getstatic 38, 3) := by decide +kernel
theorem dJ0_coder_7d493_3 : decode cJ0_coder_7d493 3 = .ok (.ifCond .eq 10, 3) := by decide +kernel
theorem dJ0_coder_7d493_6 : decode cJ0_coder_7d493 6 = .ok (.aload_n 0, 1) := by decide +kernel
theorem dJ0_coder_7d493_7 : decode cJ0_coder_7d493 7 = .ok (.getfield 15, 3) := by decide +kernel
theorem dJ0_coder_7d493_10 : decode cJ0_coder_7d493 10 = .ok (.goto 4, 3) := by decide +kernel
theorem dJ0_coder_7d493_13 : decode cJ0_coder_7d493 13 = .ok (.iconst 1, 1) := by decide +kernel
theorem dJ0_coder_7d493_14 : decode cJ0_coder_7d493 14 = .ok (.ireturn, 1) := by decide +kernel
theorem dJ0_isLatin1_aae02_0 : decode cJ0_isLatin1_aae02 0 = .ok (.getstatic 38, 3) := by decide +kernel
theorem dJ0_isLatin1_aae02_3 : decode cJ0_isLatin1_aae02 3 = .ok (.ifCond .eq 14, 3) := by decide +kernel
theorem dJ0_isLatin1_aae02_6 : decode cJ0_isLatin1_aae02 6 = .ok (.aload_n 0, 1) := by decide +kernel
theorem dJ0_isLatin1_aae02_7 : decode cJ0_isLatin1_aae02 7 = .ok (.getfield 15, 3) := by decide +kernel
theorem dJ0_isLatin1_aae02_10 : decode cJ0_isLatin1_aae02 10 = .ok (.ifCond .ne 7, 3) := by decide +kernel
theorem dJ0_isLatin1_aae02_13 : decode cJ0_isLatin1_aae02 13 = .ok (.iconst 1, 1) := by decide +kernel
theorem dJ0_isLatin1_aae02_14 : decode cJ0_isLatin1_aae02 14 = .ok (.goto 4, 3) := by decide +kernel
theorem dJ0_isLatin1_aae02_17 : decode cJ0_isLatin1_aae02 17 = .ok (.iconst 0, 1) := by decide +kernel
theorem dJ0_isLatin1_aae02_18 : decode cJ0_isLatin1_aae02 18 = .ok (.ireturn, 1) := by decide +kernel
theorem dJ0_checkIndex_df160_0 : decode cJ0_checkIndex_df160 0 = .ok (.iload_n 0, 1) := by decide +kernel
theorem dJ0_checkIndex_df160_1 : decode cJ0_checkIndex_df160 1 = .ok (.iload_n 1, 1) := by decide +kernel
theorem dJ0_checkIndex_df160_2 : decode cJ0_checkIndex_df160 2 = .ok (.getstatic 1053, 3) := by decide +kernel
theorem dJ0_checkIndex_df160_5 : decode cJ0_checkIndex_df160 5 = .ok (.invokestatic 1059, 3) := by decide +kernel
theorem dJ0_checkIndex_df160_8 : decode cJ0_checkIndex_df160 8 = .ok (.pop, 1) := by decide +kernel
theorem dJ0_checkIndex_df160_9 : decode cJ0_checkIndex_df160 9 = .ok (.return_, 1) := by decide +kernel
theorem dJ1_charAt_3b067_0 : decode cJ1_charAt_3b067 0 = .ok (.iload_n 1, 1) := by decide +kernel
theorem dJ1_charAt_3b067_1 : decode cJ1_charAt_3b067 1 = .ok (.aload_n 0, 1) := by decide +kernel
theorem dJ1_charAt_3b067_2 : decode cJ1_charAt_3b067 2 = .ok (.arraylength, 1) := by decide +kernel
theorem dJ1_charAt_3b067_3 : decode cJ1_charAt_3b067 3 = .ok (.invokestatic 9, 3) := by decide +kernel
theorem dJ1_charAt_3b067_6 : decode cJ1_charAt_3b067 6 = .ok (.aload_n 0, 1) := by decide +kernel
theorem dJ1_charAt_3b067_7 : decode cJ1_charAt_3b067 7 = .ok (.iload_n 1, 1) := by decide +kernel
theorem dJ1_charAt_3b067_8 : decode cJ1_charAt_3b067 8 = .ok (.baload, 1) := by decide +kernel
theorem dJ1_charAt_3b067_9 : decode cJ1_charAt_3b067 9 = .ok (.sipush 255, 3) := by decide +kernel
theorem dJ1_charAt_3b067_12 : decode cJ1_charAt_3b067 12 = .ok (.iand, 1) := by decide +kernel
theorem dJ1_charAt_3b067_13 : decode cJ1_charAt_3b067 13 = .ok (.i2c, 1) := by decide +kernel
theorem dJ1_charAt_3b067_14 : decode cJ1_charAt_3b067 14 = .ok (.ireturn, 1) := by decide +kernel
theorem dJ3_checkIndex_8e157_0 : decode cJ3_checkIndex_8e157 0 = .ok (.iload_n 0, 1) := by decide +kernel
theorem dJ3_checkIndex_8e157_1 : decode cJ3_checkIndex_8e157 1 = .ok (.ifCond .lt 8, 3) := by decide +kernel
theorem dJ3_checkIndex_8e157_4 : decode cJ3_checkIndex_8e157 4 = .ok (.iload_n 0, 1) := by decide +kernel
theorem dJ3_checkIndex_8e157_5 : decode cJ3_checkIndex_8e157 5 = .ok (.iload_n 1, 1) := by decide +kernel
theorem dJ3_checkIndex_8e157_6 : decode cJ3_checkIndex_8e157 6 = .ok (.if_icmp .lt 10, 3) := by decide +kernel
theorem dJ3_checkIndex_8e157_9 : decode cJ3_checkIndex_8e157 9 = .ok (.aload_n 2, 1) := by decide +kernel
theorem dJ3_checkIndex_8e157_10 : decode cJ3_checkIndex_8e157 10 = .ok (.iload_n 0, 1) := by decide +kernel
theorem dJ3_checkIndex_8e157_11 : decode cJ3_checkIndex_8e157 11 = .ok (.iload_n 1, 1) := by decide +kernel
theorem dJ3_checkIndex_8e157_12 : decode cJ3_checkIndex_8e157 12 = .ok (.invokestatic 95, 3) := by decide +kernel
theorem dJ3_checkIndex_8e157_15 : decode cJ3_checkIndex_8e157 15 = .ok (.athrow, 1) := by decide +kernel
theorem dJ3_checkIndex_8e157_16 : decode cJ3_checkIndex_8e157 16 = .ok (.iload_n 0, 1) := by decide +kernel
theorem dJ3_checkIndex_8e157_17 : decode cJ3_checkIndex_8e157 17 = .ok (.ireturn, 1) := by decide +kernel
