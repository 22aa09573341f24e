theorem dX0_init_0 : decode cX0_init 0 = .ok (.aload_n 0, 1) := by decide +kernel
theorem dX0_init_1 : decode cX0_init 1 = .ok (.invokespecial 3, 3) := by decide +kernel
theorem dX0_init_4 : decode cX0_init 4 = .ok (.aload_n 0, 1) := by decide +kernel
theorem dX0_init_5 : decode cX0_init 5 = .ok (.bipush 30, 2) := by decide +kernel
theorem dX0_init_7 : decode cX0_init 7 = .ok (.newarray .int, 2) := by decide +kernel
theorem dX0_init_9 : decode cX0_init 9 = .ok (.putfield 9, 3) := by decide +kernel
theorem dX0_init_12 : decode cX0_init 12 = .ok (.aload_n 0, 1) := by decide +kernel
theorem dX0_init_13 : decode cX0_init 13 = .ok (.bipush 30, 2) := by decide +kernel
theorem dX0_init_15 : decode cX0_init 15 = .ok (.newarray .int, 2) := by decide +kernel
theorem dX0_init_17 : decode cX0_init 17 = .ok (.putfield 15, 3) := by decide +kernel
theorem dX0_init_20 : decode cX0_init 20 = .ok (.aload_n 0, 1) := by decide +kernel
theorem dX0_init_21 : decode cX0_init 21 = .ok (.bipush 30, 2) := by decide +kernel
theorem dX0_init_23 : decode cX0_init 23 = .ok (.newarray .int, 2) := by decide +kernel
theorem dX0_init_25 : decode cX0_init 25 = .ok (.putfield 18, 3) := by decide +kernel
theorem dX0_init_28 : decode cX0_init 28 = .ok (.return_, 1) := by decide +kernel
theorem dX0_add_0 : decode cX0_add 0 = .ok (.aload_n 0, 1) := by decide +kernel
theorem dX0_add_1 : decode cX0_add 1 = .ok (.getfield 21, 3) := by decide +kernel
theorem dX0_add_4 : decode cX0_add 4 = .ok (.bipush 30, 2) := by decide +kernel
theorem dX0_add_6 : decode cX0_add 6 = .ok (.if_icmp .lt 6, 3) := by decide +kernel
theorem dX0_add_9 : decode cX0_add 9 = .ok (.bipush (-3), 2) := by decide +kernel
theorem dX0_add_11 : decode cX0_add 11 = .ok (.ireturn, 1) := by decide +kernel
theorem dX0_add_12 : decode cX0_add 12 = .ok (.aload_n 0, 1) := by decide +kernel
theorem dX0_add_13 : decode cX0_add 13 = .ok (.getfield 9, 3) := by decide +kernel
theorem dX0_add_16 : decode cX0_add 16 = .ok (.aload_n 0, 1) := by decide +kernel
theorem dX0_add_17 : decode cX0_add 17 = .ok (.getfield 21, 3) := by decide +kernel
theorem dX0_add_20 : decode cX0_add 20 = .ok (.iload_n 1, 1) := by decide +kernel
theorem dX0_add_21 : decode cX0_add 21 = .ok (.iastore, 1) := by decide +kernel
theorem dX0_add_22 : decode cX0_add 22 = .ok (.aload_n 0, 1) := by decide +kernel
theorem dX0_add_23 : decode cX0_add 23 = .ok (.getfield 15, 3) := by decide +kernel
theorem dX0_add_26 : decode cX0_add 26 = .ok (.aload_n 0, 1) := by decide +kernel
theorem dX0_add_27 : decode cX0_add 27 = .ok (.getfield 21, 3) := by decide +kernel
theorem dX0_add_30 : decode cX0_add 30 = .ok (.iload_n 2, 1) := by decide +kernel
theorem dX0_add_31 : decode cX0_add 31 = .ok (.iastore, 1) := by decide +kernel
theorem dX0_add_32 : decode cX0_add 32 = .ok (.aload_n 0, 1) := by decide +kernel
theorem dX0_add_33 : decode cX0_add 33 = .ok (.getfield 18, 3) := by decide +kernel
theorem dX0_add_36 : decode cX0_add 36 = .ok (.aload_n 0, 1) := by decide +kernel
theorem dX0_add_37 : decode cX0_add 37 = .ok (.getfield 21, 3) := by decide +kernel
theorem dX0_add_40 : decode cX0_add 40 = .ok (.iconst 2, 1) := by decide +kernel
theorem dX0_add_41 : decode cX0_add 41 = .ok (.iastore, 1) := by decide +kernel
theorem dX0_add_42 : decode cX0_add 42 = .ok (.aload_n 0, 1) := by decide +kernel
theorem dX0_add_43 : decode cX0_add 43 = .ok (.dup, 1) := by decide +kernel
theorem dX0_add_44 : decode cX0_add 44 = .ok (.getfield 21, 3) := by decide +kernel
theorem dX0_add_47 : decode cX0_add 47 = .ok (.iconst 1, 1) := by decide +kernel
theorem dX0_add_48 : decode cX0_add 48 = .ok (.iadd, 1) := by decide +kernel
theorem dX0_add_49 : decode cX0_add 49 = .ok (.putfield 21, 3) := by decide +kernel
theorem dX0_add_52 : decode cX0_add 52 = .ok (.aload_n 0, 1) := by decide +kernel
theorem dX0_add_53 : decode cX0_add 53 = .ok (.getfield 21, 3) := by decide +kernel
theorem dX0_add_56 : decode cX0_add 56 = .ok (.iconst 1, 1) := by decide +kernel
theorem dX0_add_57 : decode cX0_add 57 = .ok (.isub, 1) := by decide +kernel
theorem dX0_add_58 : decode cX0_add 58 = .ok (.ireturn, 1) := by decide +kernel
set_option maxRecDepth 20000 in
theorem ggX0_addRound_X0_add : GoodIn wsX0_addRound wsX0_add := goodIn_r _ [5, 6, 7, 8, 9, 10, 11, 12, 13] (by decide +kernel) (by decide +kernel)
set_option maxRecDepth 20000 in
theorem gX0_addRound_X0_add : GoodIn wsX0_addRound (wsV RX0 25 RX0 yX0_add wsX0_add) := goodIn_app (goodIn_of _ (by decide +kernel)) ggX0_addRound_X0_add
theorem dX0_addRound_0 : decode cX0_addRound 0 = .ok (.iconst 0, 1) := by decide +kernel
theorem dX0_addRound_1 : decode cX0_addRound 1 = .ok (.istore_n 2, 1) := by decide +kernel
theorem dX0_addRound_2 : decode cX0_addRound 2 = .ok (.iload_n 2, 1) := by decide +kernel
theorem dX0_addRound_3 : decode cX0_addRound 3 = .ok (.iload_n 1, 1) := by decide +kernel
theorem dX0_addRound_4 : decode cX0_addRound 4 = .ok (.if_icmp .ge 31, 3) := by decide +kernel
theorem dX0_addRound_7 : decode cX0_addRound 7 = .ok (.iload_n 2, 1) := by decide +kernel
theorem dX0_addRound_8 : decode cX0_addRound 8 = .ok (.iconst 1, 1) := by decide +kernel
theorem dX0_addRound_9 : decode cX0_addRound 9 = .ok (.iadd, 1) := by decide +kernel
theorem dX0_addRound_10 : decode cX0_addRound 10 = .ok (.istore_n 3, 1) := by decide +kernel
theorem dX0_addRound_11 : decode cX0_addRound 11 = .ok (.iload_n 3, 1) := by decide +kernel
theorem dX0_addRound_12 : decode cX0_addRound 12 = .ok (.iload_n 1, 1) := by decide +kernel
theorem dX0_addRound_13 : decode cX0_addRound 13 = .ok (.if_icmp .ge 16, 3) := by decide +kernel
theorem dX0_addRound_16 : decode cX0_addRound 16 = .ok (.aload_n 0, 1) := by decide +kernel
theorem dX0_addRound_17 : decode cX0_addRound 17 = .ok (.iload_n 2, 1) := by decide +kernel
theorem dX0_addRound_18 : decode cX0_addRound 18 = .ok (.iload_n 3, 1) := by decide +kernel
theorem dX0_addRound_19 : decode cX0_addRound 19 = .ok (.invokevirtual 25, 3) := by decide +kernel
theorem dX0_addRound_22 : decode cX0_addRound 22 = .ok (.pop, 1) := by decide +kernel
theorem dX0_addRound_23 : decode cX0_addRound 23 = .ok (.iinc 3 1, 3) := by decide +kernel
theorem dX0_addRound_26 : decode cX0_addRound 26 = .ok (.goto (-15), 3) := by decide +kernel
theorem dX0_addRound_29 : decode cX0_addRound 29 = .ok (.iinc 2 1, 3) := by decide +kernel
theorem dX0_addRound_32 : decode cX0_addRound 32 = .ok (.goto (-30), 3) := by decide +kernel
theorem dX0_addRound_35 : decode cX0_addRound 35 = .ok (.return_, 1) := by decide +kernel
theorem dX0_copyFrom_0 : decode cX0_copyFrom 0 = .ok (.aload_n 0, 1) := by decide +kernel
theorem dX0_copyFrom_1 : decode cX0_copyFrom 1 = .ok (.aload_n 1, 1) := by decide +kernel
theorem dX0_copyFrom_2 : decode cX0_copyFrom 2 = .ok (.getfield 21, 3) := by decide +kernel
theorem dX0_copyFrom_5 : decode cX0_copyFrom 5 = .ok (.putfield 21, 3) := by decide +kernel
theorem dX0_copyFrom_8 : decode cX0_copyFrom 8 = .ok (.iconst 0, 1) := by decide +kernel
theorem dX0_copyFrom_9 : decode cX0_copyFrom 9 = .ok (.istore_n 2, 1) := by decide +kernel
theorem dX0_copyFrom_10 : decode cX0_copyFrom 10 = .ok (.iload_n 2, 1) := by decide +kernel
theorem dX0_copyFrom_11 : decode cX0_copyFrom 11 = .ok (.aload_n 0, 1) := by decide +kernel
theorem dX0_copyFrom_12 : decode cX0_copyFrom 12 = .ok (.getfield 21, 3) := by decide +kernel
theorem dX0_copyFrom_15 : decode cX0_copyFrom 15 = .ok (.if_icmp .ge 45, 3) := by decide +kernel
theorem dX0_copyFrom_18 : decode cX0_copyFrom 18 = .ok (.aload_n 0, 1) := by decide +kernel
theorem dX0_copyFrom_19 : decode cX0_copyFrom 19 = .ok (.getfield 9, 3) := by decide +kernel
theorem dX0_copyFrom_22 : decode cX0_copyFrom 22 = .ok (.iload_n 2, 1) := by decide +kernel
theorem dX0_copyFrom_23 : decode cX0_copyFrom 23 = .ok (.aload_n 1, 1) := by decide +kernel
theorem dX0_copyFrom_24 : decode cX0_copyFrom 24 = .ok (.getfield 9, 3) := by decide +kernel
theorem dX0_copyFrom_27 : decode cX0_copyFrom 27 = .ok (.iload_n 2, 1) := by decide +kernel
theorem dX0_copyFrom_28 : decode cX0_copyFrom 28 = .ok (.iaload, 1) := by decide +kernel
theorem dX0_copyFrom_29 : decode cX0_copyFrom 29 = .ok (.iastore, 1) := by decide +kernel
theorem dX0_copyFrom_30 : decode cX0_copyFrom 30 = .ok (.aload_n 0, 1) := by decide +kernel
theorem dX0_copyFrom_31 : decode cX0_copyFrom 31 = .ok (.getfield 15, 3) := by decide +kernel
theorem dX0_copyFrom_34 : decode cX0_copyFrom 34 = .ok (.iload_n 2, 1) := by decide +kernel
theorem dX0_copyFrom_35 : decode cX0_copyFrom 35 = .ok (.aload_n 1, 1) := by decide +kernel
theorem dX0_copyFrom_36 : decode cX0_copyFrom 36 = .ok (.getfield 15, 3) := by decide +kernel
theorem dX0_copyFrom_39 : decode cX0_copyFrom 39 = .ok (.iload_n 2, 1) := by decide +kernel
theorem dX0_copyFrom_40 : decode cX0_copyFrom 40 = .ok (.iaload, 1) := by decide +kernel
theorem dX0_copyFrom_41 : decode cX0_copyFrom 41 = .ok (.iastore, 1) := by decide +kernel
theorem dX0_copyFrom_42 : decode cX0_copyFrom 42 = .ok (.aload_n 0, 1) := by decide +kernel
theorem dX0_copyFrom_43 : decode cX0_copyFrom 43 = .ok (.getfield 18, 3) := by decide +kernel
theorem dX0_copyFrom_46 : decode cX0_copyFrom 46 = .ok (.iload_n 2, 1) := by decide +kernel
theorem dX0_copyFrom_47 : decode cX0_copyFrom 47 = .ok (.aload_n 1, 1) := by decide +kernel
theorem dX0_copyFrom_48 : decode cX0_copyFrom 48 = .ok (.getfield 18, 3) := by decide +kernel
theorem dX0_copyFrom_51 : decode cX0_copyFrom 51 = .ok (.iload_n 2, 1) := by decide +kernel
theorem dX0_copyFrom_52 : decode cX0_copyFrom 52 = .ok (.iaload, 1) := by decide +kernel
theorem dX0_copyFrom_53 : decode cX0_copyFrom 53 = .ok (.iastore, 1) := by decide +kernel
theorem dX0_copyFrom_54 : decode cX0_copyFrom 54 = .ok (.iinc 2 1, 3) := by decide +kernel
theorem dX0_copyFrom_57 : decode cX0_copyFrom 57 = .ok (.goto (-47), 3) := by decide +kernel
theorem dX0_copyFrom_60 : decode cX0_copyFrom 60 = .ok (.return_, 1) := by decide +kernel
theorem dX0_has_0 : decode cX0_has 0 = .ok (.iload_n 1, 1) := by decide +kernel
theorem dX0_has_1 : decode cX0_has 1 = .ok (.ifCond .lt 15, 3) := by decide +kernel
theorem dX0_has_4 : decode cX0_has 4 = .ok (.iload_n 1, 1) := by decide +kernel
theorem dX0_has_5 : decode cX0_has 5 = .ok (.aload_n 0, 1) := by decide +kernel
theorem dX0_has_6 : decode cX0_has 6 = .ok (.getfield 21, 3) := by decide +kernel
theorem dX0_has_9 : decode cX0_has 9 = .ok (.if_icmp .ge 7, 3) := by decide +kernel
theorem dX0_has_12 : decode cX0_has 12 = .ok (.iconst 1, 1) := by decide +kernel
theorem dX0_has_13 : decode cX0_has 13 = .ok (.goto 4, 3) := by decide +kernel
theorem dX0_has_16 : decode cX0_has 16 = .ok (.iconst 0, 1) := by decide +kernel
theorem dX0_has_17 : decode cX0_has 17 = .ok (.ireturn, 1) := by decide +kernel
set_option maxRecDepth 20000 in
theorem ggX0_isOpen_X0_has : GoodIn wsX0_isOpen wsX0_has := goodIn_r _ [6, 7, 8, 9, 10, 11] (by decide +kernel) (by decide +kernel)
set_option maxRecDepth 20000 in
theorem gX0_isOpen_X0_has : GoodIn wsX0_isOpen (wsV RX0 29 RX0 yX0_has wsX0_has) := goodIn_app (goodIn_of _ (by decide +kernel)) ggX0_isOpen_X0_has
theorem dX0_isOpen_0 : decode cX0_isOpen 0 = .ok (.aload_n 0, 1) := by decide +kernel
theorem dX0_isOpen_1 : decode cX0_isOpen 1 = .ok (.iload_n 1, 1) := by decide +kernel
theorem dX0_isOpen_2 : decode cX0_isOpen 2 = .ok (.invokevirtual 29, 3) := by decide +kernel
theorem dX0_isOpen_5 : decode cX0_isOpen 5 = .ok (.ifCond .eq 17, 3) := by decide +kernel
theorem dX0_isOpen_8 : decode cX0_isOpen 8 = .ok (.aload_n 0, 1) := by decide +kernel
theorem dX0_isOpen_9 : decode cX0_isOpen 9 = .ok (.getfield 18, 3) := by decide +kernel
theorem dX0_isOpen_12 : decode cX0_isOpen 12 = .ok (.iload_n 1, 1) := by decide +kernel
theorem dX0_isOpen_13 : decode cX0_isOpen 13 = .ok (.iaload, 1) := by decide +kernel
theorem dX0_isOpen_14 : decode cX0_isOpen 14 = .ok (.iconst 2, 1) := by decide +kernel
theorem dX0_isOpen_15 : decode cX0_isOpen 15 = .ok (.if_icmp .ne 7, 3) := by decide +kernel
theorem dX0_isOpen_18 : decode cX0_isOpen 18 = .ok (.iconst 1, 1) := by decide +kernel
theorem dX0_isOpen_19 : decode cX0_isOpen 19 = .ok (.goto 4, 3) := by decide +kernel
theorem dX0_isOpen_22 : decode cX0_isOpen 22 = .ok (.iconst 0, 1) := by decide +kernel
theorem dX0_isOpen_23 : decode cX0_isOpen 23 = .ok (.ireturn, 1) := by decide +kernel
set_option maxRecDepth 20000 in
theorem ggX0_isOf_X0_has : GoodIn wsX0_isOf wsX0_has := goodIn_r _ [7, 8, 9, 10, 11, 12] (by decide +kernel) (by decide +kernel)
set_option maxRecDepth 20000 in
theorem gX0_isOf_X0_has : GoodIn wsX0_isOf (wsV RX0 29 RX0 yX0_has wsX0_has) := goodIn_app (goodIn_of _ (by decide +kernel)) ggX0_isOf_X0_has
theorem dX0_isOf_0 : decode cX0_isOf 0 = .ok (.aload_n 0, 1) := by decide +kernel
theorem dX0_isOf_1 : decode cX0_isOf 1 = .ok (.iload_n 1, 1) := by decide +kernel
theorem dX0_isOf_2 : decode cX0_isOf 2 = .ok (.invokevirtual 29, 3) := by decide +kernel
theorem dX0_isOf_5 : decode cX0_isOf 5 = .ok (.ifCond .eq 27, 3) := by decide +kernel
theorem dX0_isOf_8 : decode cX0_isOf 8 = .ok (.aload_n 0, 1) := by decide +kernel
theorem dX0_isOf_9 : decode cX0_isOf 9 = .ok (.getfield 9, 3) := by decide +kernel
theorem dX0_isOf_12 : decode cX0_isOf 12 = .ok (.iload_n 1, 1) := by decide +kernel
theorem dX0_isOf_13 : decode cX0_isOf 13 = .ok (.iaload, 1) := by decide +kernel
theorem dX0_isOf_14 : decode cX0_isOf 14 = .ok (.iload_n 2, 1) := by decide +kernel
theorem dX0_isOf_15 : decode cX0_isOf 15 = .ok (.if_icmp .eq 13, 3) := by decide +kernel
theorem dX0_isOf_18 : decode cX0_isOf 18 = .ok (.aload_n 0, 1) := by decide +kernel
theorem dX0_isOf_19 : decode cX0_isOf 19 = .ok (.getfield 15, 3) := by decide +kernel
theorem dX0_isOf_22 : decode cX0_isOf 22 = .ok (.iload_n 1, 1) := by decide +kernel
theorem dX0_isOf_23 : decode cX0_isOf 23 = .ok (.iaload, 1) := by decide +kernel
theorem dX0_isOf_24 : decode cX0_isOf 24 = .ok (.iload_n 2, 1) := by decide +kernel
theorem dX0_isOf_25 : decode cX0_isOf 25 = .ok (.if_icmp .ne 7, 3) := by decide +kernel
theorem dX0_isOf_28 : decode cX0_isOf 28 = .ok (.iconst 1, 1) := by decide +kernel
theorem dX0_isOf_29 : decode cX0_isOf 29 = .ok (.goto 4, 3) := by decide +kernel
theorem dX0_isOf_32 : decode cX0_isOf 32 = .ok (.iconst 0, 1) := by decide +kernel
theorem dX0_isOf_33 : decode cX0_isOf 33 = .ok (.ireturn, 1) := by decide +kernel
theorem dX0_openOnes_0 : decode cX0_openOnes 0 = .ok (.iconst 0, 1) := by decide +kernel
theorem dX0_openOnes_1 : decode cX0_openOnes 1 = .ok (.istore_n 1, 1) := by decide +kernel
theorem dX0_openOnes_2 : decode cX0_openOnes 2 = .ok (.iconst 0, 1) := by decide +kernel
theorem dX0_openOnes_3 : decode cX0_openOnes 3 = .ok (.istore_n 2, 1) := by decide +kernel
theorem dX0_openOnes_4 : decode cX0_openOnes 4 = .ok (.iload_n 2, 1) := by decide +kernel
theorem dX0_openOnes_5 : decode cX0_openOnes 5 = .ok (.aload_n 0, 1) := by decide +kernel
theorem dX0_openOnes_6 : decode cX0_openOnes 6 = .ok (.getfield 21, 3) := by decide +kernel
theorem dX0_openOnes_9 : decode cX0_openOnes 9 = .ok (.if_icmp .ge 22, 3) := by decide +kernel
theorem dX0_openOnes_12 : decode cX0_openOnes 12 = .ok (.aload_n 0, 1) := by decide +kernel
theorem dX0_openOnes_13 : decode cX0_openOnes 13 = .ok (.getfield 18, 3) := by decide +kernel
theorem dX0_openOnes_16 : decode cX0_openOnes 16 = .ok (.iload_n 2, 1) := by decide +kernel
theorem dX0_openOnes_17 : decode cX0_openOnes 17 = .ok (.iaload, 1) := by decide +kernel
theorem dX0_openOnes_18 : decode cX0_openOnes 18 = .ok (.iconst 2, 1) := by decide +kernel
theorem dX0_openOnes_19 : decode cX0_openOnes 19 = .ok (.if_icmp .ne 6, 3) := by decide +kernel
theorem dX0_openOnes_22 : decode cX0_openOnes 22 = .ok (.iinc 1 1, 3) := by decide +kernel
theorem dX0_openOnes_25 : decode cX0_openOnes 25 = .ok (.iinc 2 1, 3) := by decide +kernel
theorem dX0_openOnes_28 : decode cX0_openOnes 28 = .ok (.goto (-24), 3) := by decide +kernel
theorem dX0_openOnes_31 : decode cX0_openOnes 31 = .ok (.iload_n 1, 1) := by decide +kernel
theorem dX0_openOnes_32 : decode cX0_openOnes 32 = .ok (.ireturn, 1) := by decide +kernel
set_option maxRecDepth 20000 in
theorem ggX0_openOf_X0_isOf : GoodIn wsX0_openOf wsX0_isOf := goodIn_r _ [7, 8, 9, 10, 11, 12, 6, 13, 1, 14, 15, 16, 17] (by decide +kernel) (by decide +kernel)
set_option maxRecDepth 20000 in
theorem gX0_openOf_X0_isOf : GoodIn wsX0_openOf (wsV RX0 33 RX0 yX0_isOf wsX0_isOf) := goodIn_app (goodIn_of _ (by decide +kernel)) ggX0_openOf_X0_isOf
theorem dX0_openOf_0 : decode cX0_openOf 0 = .ok (.iconst 0, 1) := by decide +kernel
theorem dX0_openOf_1 : decode cX0_openOf 1 = .ok (.istore_n 2, 1) := by decide +kernel
theorem dX0_openOf_2 : decode cX0_openOf 2 = .ok (.iconst 0, 1) := by decide +kernel
theorem dX0_openOf_3 : decode cX0_openOf 3 = .ok (.istore_n 3, 1) := by decide +kernel
theorem dX0_openOf_4 : decode cX0_openOf 4 = .ok (.iload_n 3, 1) := by decide +kernel
theorem dX0_openOf_5 : decode cX0_openOf 5 = .ok (.aload_n 0, 1) := by decide +kernel
theorem dX0_openOf_6 : decode cX0_openOf 6 = .ok (.getfield 21, 3) := by decide +kernel
theorem dX0_openOf_9 : decode cX0_openOf 9 = .ok (.if_icmp .ge 31, 3) := by decide +kernel
theorem dX0_openOf_12 : decode cX0_openOf 12 = .ok (.aload_n 0, 1) := by decide +kernel
theorem dX0_openOf_13 : decode cX0_openOf 13 = .ok (.getfield 18, 3) := by decide +kernel
theorem dX0_openOf_16 : decode cX0_openOf 16 = .ok (.iload_n 3, 1) := by decide +kernel
theorem dX0_openOf_17 : decode cX0_openOf 17 = .ok (.iaload, 1) := by decide +kernel
theorem dX0_openOf_18 : decode cX0_openOf 18 = .ok (.iconst 2, 1) := by decide +kernel
theorem dX0_openOf_19 : decode cX0_openOf 19 = .ok (.if_icmp .ne 15, 3) := by decide +kernel
theorem dX0_openOf_22 : decode cX0_openOf 22 = .ok (.aload_n 0, 1) := by decide +kernel
theorem dX0_openOf_23 : decode cX0_openOf 23 = .ok (.iload_n 3, 1) := by decide +kernel
theorem dX0_openOf_24 : decode cX0_openOf 24 = .ok (.iload_n 1, 1) := by decide +kernel
theorem dX0_openOf_25 : decode cX0_openOf 25 = .ok (.invokevirtual 33, 3) := by decide +kernel
theorem dX0_openOf_28 : decode cX0_openOf 28 = .ok (.ifCond .eq 6, 3) := by decide +kernel
theorem dX0_openOf_31 : decode cX0_openOf 31 = .ok (.iinc 2 1, 3) := by decide +kernel
theorem dX0_openOf_34 : decode cX0_openOf 34 = .ok (.iinc 3 1, 3) := by decide +kernel
theorem dX0_openOf_37 : decode cX0_openOf 37 = .ok (.goto (-33), 3) := by decide +kernel
theorem dX0_openOf_40 : decode cX0_openOf 40 = .ok (.iload_n 2, 1) := by decide +kernel
theorem dX0_openOf_41 : decode cX0_openOf 41 = .ok (.ireturn, 1) := by decide +kernel
theorem dX0_winner_0 : decode cX0_winner 0 = .ok (.aload_n 0, 1) := by decide +kernel
theorem dX0_winner_1 : decode cX0_winner 1 = .ok (.getfield 18, 3) := by decide +kernel
theorem dX0_winner_4 : decode cX0_winner 4 = .ok (.iload_n 1, 1) := by decide +kernel
theorem dX0_winner_5 : decode cX0_winner 5 = .ok (.iaload, 1) := by decide +kernel
theorem dX0_winner_6 : decode cX0_winner 6 = .ok (.ifCond .ne 12, 3) := by decide +kernel
theorem dX0_winner_9 : decode cX0_winner 9 = .ok (.aload_n 0, 1) := by decide +kernel
theorem dX0_winner_10 : decode cX0_winner 10 = .ok (.getfield 9, 3) := by decide +kernel
theorem dX0_winner_13 : decode cX0_winner 13 = .ok (.iload_n 1, 1) := by decide +kernel
theorem dX0_winner_14 : decode cX0_winner 14 = .ok (.iaload, 1) := by decide +kernel
theorem dX0_winner_15 : decode cX0_winner 15 = .ok (.goto 9, 3) := by decide +kernel
theorem dX0_winner_18 : decode cX0_winner 18 = .ok (.aload_n 0, 1) := by decide +kernel
theorem dX0_winner_19 : decode cX0_winner 19 = .ok (.getfield 15, 3) := by decide +kernel
theorem dX0_winner_22 : decode cX0_winner 22 = .ok (.iload_n 1, 1) := by decide +kernel
theorem dX0_winner_23 : decode cX0_winner 23 = .ok (.iaload, 1) := by decide +kernel
theorem dX0_winner_24 : decode cX0_winner 24 = .ok (.ireturn, 1) := by decide +kernel
theorem dX2_init_0 : decode cX2_init 0 = .ok (.aload_n 0, 1) := by decide +kernel
theorem dX2_init_1 : decode cX2_init 1 = .ok (.invokespecial 3, 3) := by decide +kernel
theorem dX2_init_4 : decode cX2_init 4 = .ok (.aload_n 0, 1) := by decide +kernel
theorem dX2_init_5 : decode cX2_init 5 = .ok (.bipush 6, 2) := by decide +kernel
theorem dX2_init_7 : decode cX2_init 7 = .ok (.newarray .int, 2) := by decide +kernel
theorem dX2_init_9 : decode cX2_init 9 = .ok (.putfield 9, 3) := by decide +kernel
theorem dX2_init_12 : decode cX2_init 12 = .ok (.aload_n 0, 1) := by decide +kernel
theorem dX2_init_13 : decode cX2_init 13 = .ok (.bipush 6, 2) := by decide +kernel
theorem dX2_init_15 : decode cX2_init 15 = .ok (.newarray .int, 2) := by decide +kernel
theorem dX2_init_17 : decode cX2_init 17 = .ok (.putfield 15, 3) := by decide +kernel
theorem dX2_init_20 : decode cX2_init 20 = .ok (.aload_n 0, 1) := by decide +kernel
theorem dX2_init_21 : decode cX2_init 21 = .ok (.bipush 6, 2) := by decide +kernel
theorem dX2_init_23 : decode cX2_init 23 = .ok (.newarray .int, 2) := by decide +kernel
theorem dX2_init_25 : decode cX2_init 25 = .ok (.putfield 18, 3) := by decide +kernel
theorem dX2_init_28 : decode cX2_init 28 = .ok (.aload_n 0, 1) := by decide +kernel
theorem dX2_init_29 : decode cX2_init 29 = .ok (.bipush 6, 2) := by decide +kernel
theorem dX2_init_31 : decode cX2_init 31 = .ok (.newarray .int, 2) := by decide +kernel
theorem dX2_init_33 : decode cX2_init 33 = .ok (.putfield 21, 3) := by decide +kernel
theorem dX2_init_36 : decode cX2_init 36 = .ok (.aload_n 0, 1) := by decide +kernel
theorem dX2_init_37 : decode cX2_init 37 = .ok (.bipush 6, 2) := by decide +kernel
theorem dX2_init_39 : decode cX2_init 39 = .ok (.newarray .int, 2) := by decide +kernel
theorem dX2_init_41 : decode cX2_init 41 = .ok (.putfield 24, 3) := by decide +kernel
theorem dX2_init_44 : decode cX2_init 44 = .ok (.return_, 1) := by decide +kernel
theorem dX2_reset_0 : decode cX2_reset 0 = .ok (.aload_n 0, 1) := by decide +kernel
theorem dX2_reset_1 : decode cX2_reset 1 = .ok (.iconst 4, 1) := by decide +kernel
theorem dX2_reset_2 : decode cX2_reset 2 = .ok (.putfield 27, 3) := by decide +kernel
theorem dX2_reset_5 : decode cX2_reset 5 = .ok (.aload_n 0, 1) := by decide +kernel
theorem dX2_reset_6 : decode cX2_reset 6 = .ok (.iconst 0, 1) := by decide +kernel
theorem dX2_reset_7 : decode cX2_reset 7 = .ok (.putfield 31, 3) := by decide +kernel
theorem dX2_reset_10 : decode cX2_reset 10 = .ok (.aload_n 0, 1) := by decide +kernel
theorem dX2_reset_11 : decode cX2_reset 11 = .ok (.iconst 0, 1) := by decide +kernel
theorem dX2_reset_12 : decode cX2_reset 12 = .ok (.putfield 34, 3) := by decide +kernel
theorem dX2_reset_15 : decode cX2_reset 15 = .ok (.iconst 0, 1) := by decide +kernel
theorem dX2_reset_16 : decode cX2_reset 16 = .ok (.istore_n 1, 1) := by decide +kernel
theorem dX2_reset_17 : decode cX2_reset 17 = .ok (.iload_n 1, 1) := by decide +kernel
theorem dX2_reset_18 : decode cX2_reset 18 = .ok (.bipush 6, 2) := by decide +kernel
theorem dX2_reset_20 : decode cX2_reset 20 = .ok (.if_icmp .ge 44, 3) := by decide +kernel
theorem dX2_reset_23 : decode cX2_reset 23 = .ok (.aload_n 0, 1) := by decide +kernel
theorem dX2_reset_24 : decode cX2_reset 24 = .ok (.getfield 9, 3) := by decide +kernel
theorem dX2_reset_27 : decode cX2_reset 27 = .ok (.iload_n 1, 1) := by decide +kernel
theorem dX2_reset_28 : decode cX2_reset 28 = .ok (.iconst 5, 1) := by decide +kernel
theorem dX2_reset_29 : decode cX2_reset 29 = .ok (.iastore, 1) := by decide +kernel
theorem dX2_reset_30 : decode cX2_reset 30 = .ok (.aload_n 0, 1) := by decide +kernel
theorem dX2_reset_31 : decode cX2_reset 31 = .ok (.getfield 15, 3) := by decide +kernel
theorem dX2_reset_34 : decode cX2_reset 34 = .ok (.iload_n 1, 1) := by decide +kernel
theorem dX2_reset_35 : decode cX2_reset 35 = .ok (.iconst 0, 1) := by decide +kernel
theorem dX2_reset_36 : decode cX2_reset 36 = .ok (.iastore, 1) := by decide +kernel
theorem dX2_reset_37 : decode cX2_reset 37 = .ok (.aload_n 0, 1) := by decide +kernel
theorem dX2_reset_38 : decode cX2_reset 38 = .ok (.getfield 18, 3) := by decide +kernel
theorem dX2_reset_41 : decode cX2_reset 41 = .ok (.iload_n 1, 1) := by decide +kernel
theorem dX2_reset_42 : decode cX2_reset 42 = .ok (.iconst 0, 1) := by decide +kernel
theorem dX2_reset_43 : decode cX2_reset 43 = .ok (.iastore, 1) := by decide +kernel
theorem dX2_reset_44 : decode cX2_reset 44 = .ok (.aload_n 0, 1) := by decide +kernel
theorem dX2_reset_45 : decode cX2_reset 45 = .ok (.getfield 21, 3) := by decide +kernel
theorem dX2_reset_48 : decode cX2_reset 48 = .ok (.iload_n 1, 1) := by decide +kernel
theorem dX2_reset_49 : decode cX2_reset 49 = .ok (.iconst 1, 1) := by decide +kernel
theorem dX2_reset_50 : decode cX2_reset 50 = .ok (.iastore, 1) := by decide +kernel
theorem dX2_reset_51 : decode cX2_reset 51 = .ok (.aload_n 0, 1) := by decide +kernel
theorem dX2_reset_52 : decode cX2_reset 52 = .ok (.getfield 24, 3) := by decide +kernel
theorem dX2_reset_55 : decode cX2_reset 55 = .ok (.iload_n 1, 1) := by decide +kernel
theorem dX2_reset_56 : decode cX2_reset 56 = .ok (.iload_n 1, 1) := by decide +kernel
theorem dX2_reset_57 : decode cX2_reset 57 = .ok (.iastore, 1) := by decide +kernel
theorem dX2_reset_58 : decode cX2_reset 58 = .ok (.iinc 1 1, 3) := by decide +kernel
theorem dX2_reset_61 : decode cX2_reset 61 = .ok (.goto (-44), 3) := by decide +kernel
theorem dX2_reset_64 : decode cX2_reset 64 = .ok (.return_, 1) := by decide +kernel
theorem dX2_copyFrom_0 : decode cX2_copyFrom 0 = .ok (.aload_n 0, 1) := by decide +kernel
theorem dX2_copyFrom_1 : decode cX2_copyFrom 1 = .ok (.aload_n 1, 1) := by decide +kernel
theorem dX2_copyFrom_2 : decode cX2_copyFrom 2 = .ok (.getfield 27, 3) := by decide +kernel
theorem dX2_copyFrom_5 : decode cX2_copyFrom 5 = .ok (.putfield 27, 3) := by decide +kernel
theorem dX2_copyFrom_8 : decode cX2_copyFrom 8 = .ok (.aload_n 0, 1) := by decide +kernel
theorem dX2_copyFrom_9 : decode cX2_copyFrom 9 = .ok (.aload_n 1, 1) := by decide +kernel
theorem dX2_copyFrom_10 : decode cX2_copyFrom 10 = .ok (.getfield 31, 3) := by decide +kernel
theorem dX2_copyFrom_13 : decode cX2_copyFrom 13 = .ok (.putfield 31, 3) := by decide +kernel
theorem dX2_copyFrom_16 : decode cX2_copyFrom 16 = .ok (.aload_n 0, 1) := by decide +kernel
theorem dX2_copyFrom_17 : decode cX2_copyFrom 17 = .ok (.aload_n 1, 1) := by decide +kernel
theorem dX2_copyFrom_18 : decode cX2_copyFrom 18 = .ok (.getfield 34, 3) := by decide +kernel
theorem dX2_copyFrom_21 : decode cX2_copyFrom 21 = .ok (.putfield 34, 3) := by decide +kernel
theorem dX2_copyFrom_24 : decode cX2_copyFrom 24 = .ok (.iconst 0, 1) := by decide +kernel
theorem dX2_copyFrom_25 : decode cX2_copyFrom 25 = .ok (.istore_n 2, 1) := by decide +kernel
theorem dX2_copyFrom_26 : decode cX2_copyFrom 26 = .ok (.iload_n 2, 1) := by decide +kernel
theorem dX2_copyFrom_27 : decode cX2_copyFrom 27 = .ok (.bipush 6, 2) := by decide +kernel
theorem dX2_copyFrom_29 : decode cX2_copyFrom 29 = .ok (.if_icmp .ge 69, 3) := by decide +kernel
theorem dX2_copyFrom_32 : decode cX2_copyFrom 32 = .ok (.aload_n 0, 1) := by decide +kernel
theorem dX2_copyFrom_33 : decode cX2_copyFrom 33 = .ok (.getfield 9, 3) := by decide +kernel
theorem dX2_copyFrom_36 : decode cX2_copyFrom 36 = .ok (.iload_n 2, 1) := by decide +kernel
theorem dX2_copyFrom_37 : decode cX2_copyFrom 37 = .ok (.aload_n 1, 1) := by decide +kernel
theorem dX2_copyFrom_38 : decode cX2_copyFrom 38 = .ok (.getfield 9, 3) := by decide +kernel
theorem dX2_copyFrom_41 : decode cX2_copyFrom 41 = .ok (.iload_n 2, 1) := by decide +kernel
theorem dX2_copyFrom_42 : decode cX2_copyFrom 42 = .ok (.iaload, 1) := by decide +kernel
theorem dX2_copyFrom_43 : decode cX2_copyFrom 43 = .ok (.iastore, 1) := by decide +kernel
theorem dX2_copyFrom_44 : decode cX2_copyFrom 44 = .ok (.aload_n 0, 1) := by decide +kernel
theorem dX2_copyFrom_45 : decode cX2_copyFrom 45 = .ok (.getfield 15, 3) := by decide +kernel
theorem dX2_copyFrom_48 : decode cX2_copyFrom 48 = .ok (.iload_n 2, 1) := by decide +kernel
theorem dX2_copyFrom_49 : decode cX2_copyFrom 49 = .ok (.aload_n 1, 1) := by decide +kernel
theorem dX2_copyFrom_50 : decode cX2_copyFrom 50 = .ok (.getfield 15, 3) := by decide +kernel
theorem dX2_copyFrom_53 : decode cX2_copyFrom 53 = .ok (.iload_n 2, 1) := by decide +kernel
theorem dX2_copyFrom_54 : decode cX2_copyFrom 54 = .ok (.iaload, 1) := by decide +kernel
theorem dX2_copyFrom_55 : decode cX2_copyFrom 55 = .ok (.iastore, 1) := by decide +kernel
theorem dX2_copyFrom_56 : decode cX2_copyFrom 56 = .ok (.aload_n 0, 1) := by decide +kernel
theorem dX2_copyFrom_57 : decode cX2_copyFrom 57 = .ok (.getfield 18, 3) := by decide +kernel
theorem dX2_copyFrom_60 : decode cX2_copyFrom 60 = .ok (.iload_n 2, 1) := by decide +kernel
theorem dX2_copyFrom_61 : decode cX2_copyFrom 61 = .ok (.aload_n 1, 1) := by decide +kernel
theorem dX2_copyFrom_62 : decode cX2_copyFrom 62 = .ok (.getfield 18, 3) := by decide +kernel
theorem dX2_copyFrom_65 : decode cX2_copyFrom 65 = .ok (.iload_n 2, 1) := by decide +kernel
theorem dX2_copyFrom_66 : decode cX2_copyFrom 66 = .ok (.iaload, 1) := by decide +kernel
theorem dX2_copyFrom_67 : decode cX2_copyFrom 67 = .ok (.iastore, 1) := by decide +kernel
theorem dX2_copyFrom_68 : decode cX2_copyFrom 68 = .ok (.aload_n 0, 1) := by decide +kernel
theorem dX2_copyFrom_69 : decode cX2_copyFrom 69 = .ok (.getfield 21, 3) := by decide +kernel
theorem dX2_copyFrom_72 : decode cX2_copyFrom 72 = .ok (.iload_n 2, 1) := by decide +kernel
theorem dX2_copyFrom_73 : decode cX2_copyFrom 73 = .ok (.aload_n 1, 1) := by decide +kernel
theorem dX2_copyFrom_74 : decode cX2_copyFrom 74 = .ok (.getfield 21, 3) := by decide +kernel
theorem dX2_copyFrom_77 : decode cX2_copyFrom 77 = .ok (.iload_n 2, 1) := by decide +kernel
theorem dX2_copyFrom_78 : decode cX2_copyFrom 78 = .ok (.iaload, 1) := by decide +kernel
theorem dX2_copyFrom_79 : decode cX2_copyFrom 79 = .ok (.iastore, 1) := by decide +kernel
theorem dX2_copyFrom_80 : decode cX2_copyFrom 80 = .ok (.aload_n 0, 1) := by decide +kernel
theorem dX2_copyFrom_81 : decode cX2_copyFrom 81 = .ok (.getfield 24, 3) := by decide +kernel
theorem dX2_copyFrom_84 : decode cX2_copyFrom 84 = .ok (.iload_n 2, 1) := by decide +kernel
theorem dX2_copyFrom_85 : decode cX2_copyFrom 85 = .ok (.aload_n 1, 1) := by decide +kernel
theorem dX2_copyFrom_86 : decode cX2_copyFrom 86 = .ok (.getfield 24, 3) := by decide +kernel
theorem dX2_copyFrom_89 : decode cX2_copyFrom 89 = .ok (.iload_n 2, 1) := by decide +kernel
theorem dX2_copyFrom_90 : decode cX2_copyFrom 90 = .ok (.iaload, 1) := by decide +kernel
theorem dX2_copyFrom_91 : decode cX2_copyFrom 91 = .ok (.iastore, 1) := by decide +kernel
theorem dX2_copyFrom_92 : decode cX2_copyFrom 92 = .ok (.iinc 2 1, 3) := by decide +kernel
theorem dX2_copyFrom_95 : decode cX2_copyFrom 95 = .ok (.goto (-69), 3) := by decide +kernel
theorem dX2_copyFrom_98 : decode cX2_copyFrom 98 = .ok (.return_, 1) := by decide +kernel
theorem dX2_gamesOfRound_0 : decode cX2_gamesOfRound 0 = .ok (.aload_n 0, 1) := by decide +kernel
theorem dX2_gamesOfRound_1 : decode cX2_gamesOfRound 1 = .ok (.getfield 27, 3) := by decide +kernel
theorem dX2_gamesOfRound_4 : decode cX2_gamesOfRound 4 = .ok (.aload_n 0, 1) := by decide +kernel
theorem dX2_gamesOfRound_5 : decode cX2_gamesOfRound 5 = .ok (.getfield 27, 3) := by decide +kernel
theorem dX2_gamesOfRound_8 : decode cX2_gamesOfRound 8 = .ok (.iconst 1, 1) := by decide +kernel
theorem dX2_gamesOfRound_9 : decode cX2_gamesOfRound 9 = .ok (.isub, 1) := by decide +kernel
theorem dX2_gamesOfRound_10 : decode cX2_gamesOfRound 10 = .ok (.imul, 1) := by decide +kernel
theorem dX2_gamesOfRound_11 : decode cX2_gamesOfRound 11 = .ok (.iconst 2, 1) := by decide +kernel
theorem dX2_gamesOfRound_12 : decode cX2_gamesOfRound 12 = .ok (.idiv, 1) := by decide +kernel
theorem dX2_gamesOfRound_13 : decode cX2_gamesOfRound 13 = .ok (.ireturn, 1) := by decide +kernel
theorem dX2_allBalls_0 : decode cX2_allBalls 0 = .ok (.iconst 0, 1) := by decide +kernel
theorem dX2_allBalls_1 : decode cX2_allBalls 1 = .ok (.istore_n 1, 1) := by decide +kernel
theorem dX2_allBalls_2 : decode cX2_allBalls 2 = .ok (.iconst 0, 1) := by decide +kernel
theorem dX2_allBalls_3 : decode cX2_allBalls 3 = .ok (.istore_n 2, 1) := by decide +kernel
theorem dX2_allBalls_4 : decode cX2_allBalls 4 = .ok (.iload_n 2, 1) := by decide +kernel
theorem dX2_allBalls_5 : decode cX2_allBalls 5 = .ok (.aload_n 0, 1) := by decide +kernel
theorem dX2_allBalls_6 : decode cX2_allBalls 6 = .ok (.getfield 27, 3) := by decide +kernel
theorem dX2_allBalls_9 : decode cX2_allBalls 9 = .ok (.if_icmp .ge 18, 3) := by decide +kernel
theorem dX2_allBalls_12 : decode cX2_allBalls 12 = .ok (.iload_n 1, 1) := by decide +kernel
theorem dX2_allBalls_13 : decode cX2_allBalls 13 = .ok (.aload_n 0, 1) := by decide +kernel
theorem dX2_allBalls_14 : decode cX2_allBalls 14 = .ok (.getfield 21, 3) := by decide +kernel
theorem dX2_allBalls_17 : decode cX2_allBalls 17 = .ok (.iload_n 2, 1) := by decide +kernel
theorem dX2_allBalls_18 : decode cX2_allBalls 18 = .ok (.iaload, 1) := by decide +kernel
theorem dX2_allBalls_19 : decode cX2_allBalls 19 = .ok (.iadd, 1) := by decide +kernel
theorem dX2_allBalls_20 : decode cX2_allBalls 20 = .ok (.istore_n 1, 1) := by decide +kernel
theorem dX2_allBalls_21 : decode cX2_allBalls 21 = .ok (.iinc 2 1, 3) := by decide +kernel
theorem dX2_allBalls_24 : decode cX2_allBalls 24 = .ok (.goto (-20), 3) := by decide +kernel
theorem dX2_allBalls_27 : decode cX2_allBalls 27 = .ok (.iload_n 1, 1) := by decide +kernel
theorem dX2_allBalls_28 : decode cX2_allBalls 28 = .ok (.ireturn, 1) := by decide +kernel
theorem dX2_allChoices_0 : decode cX2_allChoices 0 = .ok (.iconst 0, 1) := by decide +kernel
theorem dX2_allChoices_1 : decode cX2_allChoices 1 = .ok (.istore_n 1, 1) := by decide +kernel
theorem dX2_allChoices_2 : decode cX2_allChoices 2 = .ok (.iconst 0, 1) := by decide +kernel
theorem dX2_allChoices_3 : decode cX2_allChoices 3 = .ok (.istore_n 2, 1) := by decide +kernel
theorem dX2_allChoices_4 : decode cX2_allChoices 4 = .ok (.iload_n 2, 1) := by decide +kernel
theorem dX2_allChoices_5 : decode cX2_allChoices 5 = .ok (.aload_n 0, 1) := by decide +kernel
theorem dX2_allChoices_6 : decode cX2_allChoices 6 = .ok (.getfield 27, 3) := by decide +kernel
theorem dX2_allChoices_9 : decode cX2_allChoices 9 = .ok (.if_icmp .ge 18, 3) := by decide +kernel
theorem dX2_allChoices_12 : decode cX2_allChoices 12 = .ok (.iload_n 1, 1) := by decide +kernel
theorem dX2_allChoices_13 : decode cX2_allChoices 13 = .ok (.aload_n 0, 1) := by decide +kernel
theorem dX2_allChoices_14 : decode cX2_allChoices 14 = .ok (.getfield 18, 3) := by decide +kernel
theorem dX2_allChoices_17 : decode cX2_allChoices 17 = .ok (.iload_n 2, 1) := by decide +kernel
theorem dX2_allChoices_18 : decode cX2_allChoices 18 = .ok (.iaload, 1) := by decide +kernel
theorem dX2_allChoices_19 : decode cX2_allChoices 19 = .ok (.iadd, 1) := by decide +kernel
theorem dX2_allChoices_20 : decode cX2_allChoices 20 = .ok (.istore_n 1, 1) := by decide +kernel
theorem dX2_allChoices_21 : decode cX2_allChoices 21 = .ok (.iinc 2 1, 3) := by decide +kernel
theorem dX2_allChoices_24 : decode cX2_allChoices 24 = .ok (.goto (-20), 3) := by decide +kernel
theorem dX2_allChoices_27 : decode cX2_allChoices 27 = .ok (.iload_n 1, 1) := by decide +kernel
theorem dX2_allChoices_28 : decode cX2_allChoices 28 = .ok (.ireturn, 1) := by decide +kernel
set_option maxRecDepth 20000 in
theorem ggX2_wheelHasTwice_J6_bitCount_0f7a4 : GoodIn wsX2_wheelHasTwice wsJ6_bitCount_0f7a4 := goodIn_r _ [6, 7, 8, 9] (by decide +kernel) (by decide +kernel)
set_option maxRecDepth 20000 in
theorem gX2_wheelHasTwice_J6_bitCount_0f7a4 : GoodIn wsX2_wheelHasTwice (va_wsS RX2 37 yJ6_bitCount_0f7a4 wsJ6_bitCount_0f7a4) := goodIn_app (goodIn_of _ (by decide +kernel)) ggX2_wheelHasTwice_J6_bitCount_0f7a4
theorem dX2_wheelHasTwice_0 : decode cX2_wheelHasTwice 0 = .ok (.iconst 0, 1) := by decide +kernel
theorem dX2_wheelHasTwice_1 : decode cX2_wheelHasTwice 1 = .ok (.istore_n 1, 1) := by decide +kernel
theorem dX2_wheelHasTwice_2 : decode cX2_wheelHasTwice 2 = .ok (.iconst 0, 1) := by decide +kernel
theorem dX2_wheelHasTwice_3 : decode cX2_wheelHasTwice 3 = .ok (.istore_n 2, 1) := by decide +kernel
theorem dX2_wheelHasTwice_4 : decode cX2_wheelHasTwice 4 = .ok (.iload_n 2, 1) := by decide +kernel
theorem dX2_wheelHasTwice_5 : decode cX2_wheelHasTwice 5 = .ok (.aload_n 0, 1) := by decide +kernel
theorem dX2_wheelHasTwice_6 : decode cX2_wheelHasTwice 6 = .ok (.getfield 27, 3) := by decide +kernel
theorem dX2_wheelHasTwice_9 : decode cX2_wheelHasTwice 9 = .ok (.if_icmp .ge 20, 3) := by decide +kernel
theorem dX2_wheelHasTwice_12 : decode cX2_wheelHasTwice 12 = .ok (.iload_n 1, 1) := by decide +kernel
theorem dX2_wheelHasTwice_13 : decode cX2_wheelHasTwice 13 = .ok (.iconst 1, 1) := by decide +kernel
theorem dX2_wheelHasTwice_14 : decode cX2_wheelHasTwice 14 = .ok (.aload_n 0, 1) := by decide +kernel
theorem dX2_wheelHasTwice_15 : decode cX2_wheelHasTwice 15 = .ok (.getfield 24, 3) := by decide +kernel
theorem dX2_wheelHasTwice_18 : decode cX2_wheelHasTwice 18 = .ok (.iload_n 2, 1) := by decide +kernel
theorem dX2_wheelHasTwice_19 : decode cX2_wheelHasTwice 19 = .ok (.iaload, 1) := by decide +kernel
theorem dX2_wheelHasTwice_20 : decode cX2_wheelHasTwice 20 = .ok (.ishl, 1) := by decide +kernel
theorem dX2_wheelHasTwice_21 : decode cX2_wheelHasTwice 21 = .ok (.ior, 1) := by decide +kernel
theorem dX2_wheelHasTwice_22 : decode cX2_wheelHasTwice 22 = .ok (.istore_n 1, 1) := by decide +kernel
theorem dX2_wheelHasTwice_23 : decode cX2_wheelHasTwice 23 = .ok (.iinc 2 1, 3) := by decide +kernel
theorem dX2_wheelHasTwice_26 : decode cX2_wheelHasTwice 26 = .ok (.goto (-22), 3) := by decide +kernel
theorem dX2_wheelHasTwice_29 : decode cX2_wheelHasTwice 29 = .ok (.iload_n 1, 1) := by decide +kernel
theorem dX2_wheelHasTwice_30 : decode cX2_wheelHasTwice 30 = .ok (.invokestatic 37, 3) := by decide +kernel
theorem dX2_wheelHasTwice_33 : decode cX2_wheelHasTwice 33 = .ok (.aload_n 0, 1) := by decide +kernel
theorem dX2_wheelHasTwice_34 : decode cX2_wheelHasTwice 34 = .ok (.getfield 27, 3) := by decide +kernel
theorem dX2_wheelHasTwice_37 : decode cX2_wheelHasTwice 37 = .ok (.if_icmp .ge 7, 3) := by decide +kernel
theorem dX2_wheelHasTwice_40 : decode cX2_wheelHasTwice 40 = .ok (.iconst 1, 1) := by decide +kernel
theorem dX2_wheelHasTwice_41 : decode cX2_wheelHasTwice 41 = .ok (.goto 4, 3) := by decide +kernel
theorem dX2_wheelHasTwice_44 : decode cX2_wheelHasTwice 44 = .ok (.iconst 0, 1) := by decide +kernel
theorem dX2_wheelHasTwice_45 : decode cX2_wheelHasTwice 45 = .ok (.ireturn, 1) := by decide +kernel
set_option maxRecDepth 20000 in
theorem ggX2_payUnit_X2_allBalls : GoodIn wsX2_payUnit wsX2_allBalls := goodIn_r _ [11, 6, 12, 13, 14, 15, 16, 17, 18, 19, 20] (by decide +kernel) (by decide +kernel)
set_option maxRecDepth 20000 in
theorem gX2_payUnit_X2_allBalls : GoodIn wsX2_payUnit (wsV RX2 43 RX2 yX2_allBalls wsX2_allBalls) := goodIn_app (goodIn_of _ (by decide +kernel)) ggX2_payUnit_X2_allBalls
theorem dX2_payUnit_0 : decode cX2_payUnit 0 = .ok (.aload_n 0, 1) := by decide +kernel
theorem dX2_payUnit_1 : decode cX2_payUnit 1 = .ok (.getfield 31, 3) := by decide +kernel
theorem dX2_payUnit_4 : decode cX2_payUnit 4 = .ok (.lookupswitch 42 #[(1, 28), (4, 37)], 28) := by decide +kernel
theorem dX2_payUnit_32 : decode cX2_payUnit 32 = .ok (.iconst 1, 1) := by decide +kernel
theorem dX2_payUnit_33 : decode cX2_payUnit 33 = .ok (.aload_n 0, 1) := by decide +kernel
theorem dX2_payUnit_34 : decode cX2_payUnit 34 = .ok (.invokevirtual 43, 3) := by decide +kernel
theorem dX2_payUnit_37 : decode cX2_payUnit 37 = .ok (.invokestatic 47, 3) := by decide +kernel
theorem dX2_payUnit_40 : decode cX2_payUnit 40 = .ok (.ireturn, 1) := by decide +kernel
theorem dX2_payUnit_41 : decode cX2_payUnit 41 = .ok (.aload_n 0, 1) := by decide +kernel
theorem dX2_payUnit_42 : decode cX2_payUnit 42 = .ok (.getfield 27, 3) := by decide +kernel
theorem dX2_payUnit_45 : decode cX2_payUnit 45 = .ok (.ireturn, 1) := by decide +kernel
theorem dX2_payUnit_46 : decode cX2_payUnit 46 = .ok (.iconst 1, 1) := by decide +kernel
theorem dX2_payUnit_47 : decode cX2_payUnit 47 = .ok (.ireturn, 1) := by decide +kernel
theorem dX3_init_0 : decode cX3_init 0 = .ok (.aload_n 0, 1) := by decide +kernel
theorem dX3_init_1 : decode cX3_init 1 = .ok (.invokespecial 3, 3) := by decide +kernel
theorem dX3_init_4 : decode cX3_init 4 = .ok (.aload_n 0, 1) := by decide +kernel
theorem dX3_init_5 : decode cX3_init 5 = .ok (.bipush 40, 2) := by decide +kernel
theorem dX3_init_7 : decode cX3_init 7 = .ok (.newarray .int, 2) := by decide +kernel
theorem dX3_init_9 : decode cX3_init 9 = .ok (.putfield 9, 3) := by decide +kernel
theorem dX3_init_12 : decode cX3_init 12 = .ok (.return_, 1) := by decide +kernel
theorem dX3_renew_0 : decode cX3_renew 0 = .ok (.aload_n 0, 1) := by decide +kernel
theorem dX3_renew_1 : decode cX3_renew 1 = .ok (.iconst 1, 1) := by decide +kernel
theorem dX3_renew_2 : decode cX3_renew 2 = .ok (.putfield 15, 3) := by decide +kernel
theorem dX3_renew_5 : decode cX3_renew 5 = .ok (.aload_n 0, 1) := by decide +kernel
theorem dX3_renew_6 : decode cX3_renew 6 = .ok (.iload_n 1, 1) := by decide +kernel
theorem dX3_renew_7 : decode cX3_renew 7 = .ok (.putfield 19, 3) := by decide +kernel
theorem dX3_renew_10 : decode cX3_renew 10 = .ok (.aload_n 0, 1) := by decide +kernel
theorem dX3_renew_11 : decode cX3_renew 11 = .ok (.iload_n 2, 1) := by decide +kernel
theorem dX3_renew_12 : decode cX3_renew 12 = .ok (.putfield 23, 3) := by decide +kernel
theorem dX3_renew_15 : decode cX3_renew 15 = .ok (.iconst 0, 1) := by decide +kernel
theorem dX3_renew_16 : decode cX3_renew 16 = .ok (.istore_n 3, 1) := by decide +kernel
theorem dX3_renew_17 : decode cX3_renew 17 = .ok (.iload_n 3, 1) := by decide +kernel
theorem dX3_renew_18 : decode cX3_renew 18 = .ok (.bipush 40, 2) := by decide +kernel
theorem dX3_renew_20 : decode cX3_renew 20 = .ok (.if_icmp .ge 16, 3) := by decide +kernel
theorem dX3_renew_23 : decode cX3_renew 23 = .ok (.aload_n 0, 1) := by decide +kernel
theorem dX3_renew_24 : decode cX3_renew 24 = .ok (.getfield 9, 3) := by decide +kernel
theorem dX3_renew_27 : decode cX3_renew 27 = .ok (.iload_n 3, 1) := by decide +kernel
theorem dX3_renew_28 : decode cX3_renew 28 = .ok (.iconst 0, 1) := by decide +kernel
theorem dX3_renew_29 : decode cX3_renew 29 = .ok (.iastore, 1) := by decide +kernel
theorem dX3_renew_30 : decode cX3_renew 30 = .ok (.iinc 3 1, 3) := by decide +kernel
theorem dX3_renew_33 : decode cX3_renew 33 = .ok (.goto (-16), 3) := by decide +kernel
theorem dX3_renew_36 : decode cX3_renew 36 = .ok (.return_, 1) := by decide +kernel
theorem dX3_has_0 : decode cX3_has 0 = .ok (.iload_n 1, 1) := by decide +kernel
theorem dX3_has_1 : decode cX3_has 1 = .ok (.ifCond .lt 15, 3) := by decide +kernel
theorem dX3_has_4 : decode cX3_has 4 = .ok (.iload_n 1, 1) := by decide +kernel
theorem dX3_has_5 : decode cX3_has 5 = .ok (.aload_n 0, 1) := by decide +kernel
theorem dX3_has_6 : decode cX3_has 6 = .ok (.getfield 23, 3) := by decide +kernel
theorem dX3_has_9 : decode cX3_has 9 = .ok (.if_icmp .ge 7, 3) := by decide +kernel
theorem dX3_has_12 : decode cX3_has 12 = .ok (.iconst 1, 1) := by decide +kernel
theorem dX3_has_13 : decode cX3_has 13 = .ok (.goto 4, 3) := by decide +kernel
theorem dX3_has_16 : decode cX3_has 16 = .ok (.iconst 0, 1) := by decide +kernel
theorem dX3_has_17 : decode cX3_has 17 = .ok (.ireturn, 1) := by decide +kernel
theorem dX3_put_0 : decode cX3_put 0 = .ok (.aload_n 0, 1) := by decide +kernel
theorem dX3_put_1 : decode cX3_put 1 = .ok (.getfield 19, 3) := by decide +kernel
theorem dX3_put_4 : decode cX3_put 4 = .ok (.lookupswitch 50 #[(0, 28), (1, 39)], 28) := by decide +kernel
theorem dX3_put_32 : decode cX3_put 32 = .ok (.aload_n 0, 1) := by decide +kernel
theorem dX3_put_33 : decode cX3_put 33 = .ok (.getfield 9, 3) := by decide +kernel
theorem dX3_put_36 : decode cX3_put 36 = .ok (.iload_n 1, 1) := by decide +kernel
theorem dX3_put_37 : decode cX3_put 37 = .ok (.iload_n 2, 1) := by decide +kernel
theorem dX3_put_38 : decode cX3_put 38 = .ok (.i2b, 1) := by decide +kernel
theorem dX3_put_39 : decode cX3_put 39 = .ok (.iastore, 1) := by decide +kernel
theorem dX3_put_40 : decode cX3_put 40 = .ok (.goto 21, 3) := by decide +kernel
theorem dX3_put_43 : decode cX3_put 43 = .ok (.aload_n 0, 1) := by decide +kernel
theorem dX3_put_44 : decode cX3_put 44 = .ok (.getfield 9, 3) := by decide +kernel
theorem dX3_put_47 : decode cX3_put 47 = .ok (.iload_n 1, 1) := by decide +kernel
theorem dX3_put_48 : decode cX3_put 48 = .ok (.iload_n 2, 1) := by decide +kernel
theorem dX3_put_49 : decode cX3_put 49 = .ok (.i2s, 1) := by decide +kernel
theorem dX3_put_50 : decode cX3_put 50 = .ok (.iastore, 1) := by decide +kernel
theorem dX3_put_51 : decode cX3_put 51 = .ok (.goto 10, 3) := by decide +kernel
theorem dX3_put_54 : decode cX3_put 54 = .ok (.aload_n 0, 1) := by decide +kernel
theorem dX3_put_55 : decode cX3_put 55 = .ok (.getfield 9, 3) := by decide +kernel
theorem dX3_put_58 : decode cX3_put 58 = .ok (.iload_n 1, 1) := by decide +kernel
theorem dX3_put_59 : decode cX3_put 59 = .ok (.iload_n 2, 1) := by decide +kernel
theorem dX3_put_60 : decode cX3_put 60 = .ok (.iastore, 1) := by decide +kernel
theorem dX3_put_61 : decode cX3_put 61 = .ok (.return_, 1) := by decide +kernel
set_option maxRecDepth 20000 in
theorem ggX3_readable_X3_has : GoodIn wsX3_readable wsX3_has := goodIn_r _ [12, 3, 13, 14, 15, 16] (by decide +kernel) (by decide +kernel)
set_option maxRecDepth 20000 in
theorem gX3_readable_X3_has : GoodIn wsX3_readable (wsV RX3 26 RX3 yX3_has wsX3_has) := goodIn_app (goodIn_of _ (by decide +kernel)) ggX3_readable_X3_has
theorem dX3_readable_0 : decode cX3_readable 0 = .ok (.aload_n 0, 1) := by decide +kernel
theorem dX3_readable_1 : decode cX3_readable 1 = .ok (.getfield 15, 3) := by decide +kernel
theorem dX3_readable_4 : decode cX3_readable 4 = .ok (.ifCond .eq 19, 3) := by decide +kernel
theorem dX3_readable_7 : decode cX3_readable 7 = .ok (.iload_n 1, 1) := by decide +kernel
theorem dX3_readable_8 : decode cX3_readable 8 = .ok (.aload_n 0, 1) := by decide +kernel
theorem dX3_readable_9 : decode cX3_readable 9 = .ok (.getfield 19, 3) := by decide +kernel
theorem dX3_readable_12 : decode cX3_readable 12 = .ok (.if_icmp .ne 11, 3) := by decide +kernel
theorem dX3_readable_15 : decode cX3_readable 15 = .ok (.aload_n 0, 1) := by decide +kernel
theorem dX3_readable_16 : decode cX3_readable 16 = .ok (.iload_n 2, 1) := by decide +kernel
theorem dX3_readable_17 : decode cX3_readable 17 = .ok (.invokevirtual 26, 3) := by decide +kernel
theorem dX3_readable_20 : decode cX3_readable 20 = .ok (.ifCond .ne 5, 3) := by decide +kernel
theorem dX3_readable_23 : decode cX3_readable 23 = .ok (.iconst 0, 1) := by decide +kernel
theorem dX3_readable_24 : decode cX3_readable 24 = .ok (.ireturn, 1) := by decide +kernel
theorem dX3_readable_25 : decode cX3_readable 25 = .ok (.iload_n 3, 1) := by decide +kernel
theorem dX3_readable_26 : decode cX3_readable 26 = .ok (.aload_n 0, 1) := by decide +kernel
theorem dX3_readable_27 : decode cX3_readable 27 = .ok (.getfield 23, 3) := by decide +kernel
theorem dX3_readable_30 : decode cX3_readable 30 = .ok (.iload_n 2, 1) := by decide +kernel
theorem dX3_readable_31 : decode cX3_readable 31 = .ok (.isub, 1) := by decide +kernel
theorem dX3_readable_32 : decode cX3_readable 32 = .ok (.invokestatic 30, 3) := by decide +kernel
theorem dX3_readable_35 : decode cX3_readable 35 = .ok (.ireturn, 1) := by decide +kernel
theorem dX3_machineFault_0 : decode cX3_machineFault 0 = .ok (.iload_n 2, 1) := by decide +kernel
theorem dX3_machineFault_1 : decode cX3_machineFault 1 = .ok (.iload_n 3, 1) := by decide +kernel
theorem dX3_machineFault_2 : decode cX3_machineFault 2 = .ok (.if_icmp .lt 5, 3) := by decide +kernel
theorem dX3_machineFault_5 : decode cX3_machineFault 5 = .ok (.iconst 0, 1) := by decide +kernel
theorem dX3_machineFault_6 : decode cX3_machineFault 6 = .ok (.ireturn, 1) := by decide +kernel
theorem dX3_machineFault_7 : decode cX3_machineFault 7 = .ok (.aload_n 0, 1) := by decide +kernel
theorem dX3_machineFault_8 : decode cX3_machineFault 8 = .ok (.getfield 15, 3) := by decide +kernel
theorem dX3_machineFault_11 : decode cX3_machineFault 11 = .ok (.ifCond .ne 5, 3) := by decide +kernel
theorem dX3_machineFault_14 : decode cX3_machineFault 14 = .ok (.iconst 1, 1) := by decide +kernel
theorem dX3_machineFault_15 : decode cX3_machineFault 15 = .ok (.ireturn, 1) := by decide +kernel
theorem dX3_machineFault_16 : decode cX3_machineFault 16 = .ok (.iload_n 1, 1) := by decide +kernel
theorem dX3_machineFault_17 : decode cX3_machineFault 17 = .ok (.aload_n 0, 1) := by decide +kernel
theorem dX3_machineFault_18 : decode cX3_machineFault 18 = .ok (.getfield 19, 3) := by decide +kernel
theorem dX3_machineFault_21 : decode cX3_machineFault 21 = .ok (.if_icmp .eq 7, 3) := by decide +kernel
theorem dX3_machineFault_24 : decode cX3_machineFault 24 = .ok (.iconst 3, 1) := by decide +kernel
theorem dX3_machineFault_25 : decode cX3_machineFault 25 = .ok (.goto 4, 3) := by decide +kernel
theorem dX3_machineFault_28 : decode cX3_machineFault 28 = .ok (.iconst 2, 1) := by decide +kernel
theorem dX3_machineFault_29 : decode cX3_machineFault 29 = .ok (.ireturn, 1) := by decide +kernel
