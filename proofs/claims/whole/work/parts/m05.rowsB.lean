theorem dX8_init_0 : decode cX8_init 0 = .ok (.aload_n 0, 1) := by decide +kernel
theorem dX8_init_1 : decode cX8_init 1 = .ok (.invokespecial 1, 3) := by decide +kernel
theorem dX8_init_4 : decode cX8_init 4 = .ok (.aload_n 0, 1) := by decide +kernel
theorem dX8_init_5 : decode cX8_init 5 = .ok (.new 7, 3) := by decide +kernel
theorem dX8_init_8 : decode cX8_init 8 = .ok (.dup, 1) := by decide +kernel
theorem dX8_init_9 : decode cX8_init 9 = .ok (.invokespecial 9, 3) := by decide +kernel
theorem dX8_init_12 : decode cX8_init 12 = .ok (.putfield 10, 3) := by decide +kernel
theorem dX8_init_15 : decode cX8_init 15 = .ok (.aload_n 0, 1) := by decide +kernel
theorem dX8_init_16 : decode cX8_init 16 = .ok (.new 16, 3) := by decide +kernel
theorem dX8_init_19 : decode cX8_init 19 = .ok (.dup, 1) := by decide +kernel
theorem dX8_init_20 : decode cX8_init 20 = .ok (.invokespecial 18, 3) := by decide +kernel
theorem dX8_init_23 : decode cX8_init 23 = .ok (.putfield 19, 3) := by decide +kernel
theorem dX8_init_26 : decode cX8_init 26 = .ok (.aload_n 0, 1) := by decide +kernel
theorem dX8_init_27 : decode cX8_init 27 = .ok (.new 23, 3) := by decide +kernel
theorem dX8_init_30 : decode cX8_init 30 = .ok (.dup, 1) := by decide +kernel
theorem dX8_init_31 : decode cX8_init 31 = .ok (.invokespecial 25, 3) := by decide +kernel
theorem dX8_init_34 : decode cX8_init 34 = .ok (.putfield 26, 3) := by decide +kernel
theorem dX8_init_37 : decode cX8_init 37 = .ok (.aload_n 0, 1) := by decide +kernel
theorem dX8_init_38 : decode cX8_init 38 = .ok (.new 30, 3) := by decide +kernel
theorem dX8_init_41 : decode cX8_init 41 = .ok (.dup, 1) := by decide +kernel
theorem dX8_init_42 : decode cX8_init 42 = .ok (.invokespecial 32, 3) := by decide +kernel
theorem dX8_init_45 : decode cX8_init 45 = .ok (.putfield 33, 3) := by decide +kernel
theorem dX8_init_48 : decode cX8_init 48 = .ok (.aload_n 0, 1) := by decide +kernel
theorem dX8_init_49 : decode cX8_init 49 = .ok (.new 37, 3) := by decide +kernel
theorem dX8_init_52 : decode cX8_init 52 = .ok (.dup, 1) := by decide +kernel
theorem dX8_init_53 : decode cX8_init 53 = .ok (.invokespecial 39, 3) := by decide +kernel
theorem dX8_init_56 : decode cX8_init 56 = .ok (.putfield 40, 3) := by decide +kernel
theorem dX8_init_59 : decode cX8_init 59 = .ok (.aload_n 0, 1) := by decide +kernel
theorem dX8_init_60 : decode cX8_init 60 = .ok (.new 44, 3) := by decide +kernel
theorem dX8_init_63 : decode cX8_init 63 = .ok (.dup, 1) := by decide +kernel
theorem dX8_init_64 : decode cX8_init 64 = .ok (.invokespecial 46, 3) := by decide +kernel
theorem dX8_init_67 : decode cX8_init 67 = .ok (.putfield 47, 3) := by decide +kernel
theorem dX8_init_70 : decode cX8_init 70 = .ok (.aload_n 0, 1) := by decide +kernel
theorem dX8_init_71 : decode cX8_init 71 = .ok (.iconst 4, 1) := by decide +kernel
theorem dX8_init_72 : decode cX8_init 72 = .ok (.anewarray 51, 3) := by decide +kernel
theorem dX8_init_75 : decode cX8_init 75 = .ok (.putfield 53, 3) := by decide +kernel
theorem dX8_init_78 : decode cX8_init 78 = .ok (.aload_n 0, 1) := by decide +kernel
theorem dX8_init_79 : decode cX8_init 79 = .ok (.getfield 10, 3) := by decide +kernel
theorem dX8_init_82 : decode cX8_init 82 = .ok (.invokevirtual 57, 3) := by decide +kernel
theorem dX8_init_85 : decode cX8_init 85 = .ok (.iconst 0, 1) := by decide +kernel
theorem dX8_init_86 : decode cX8_init 86 = .ok (.istore_n 1, 1) := by decide +kernel
theorem dX8_init_87 : decode cX8_init 87 = .ok (.iload_n 1, 1) := by decide +kernel
theorem dX8_init_88 : decode cX8_init 88 = .ok (.iconst 4, 1) := by decide +kernel
theorem dX8_init_89 : decode cX8_init 89 = .ok (.if_icmp .ge 22, 3) := by decide +kernel
theorem dX8_init_92 : decode cX8_init 92 = .ok (.aload_n 0, 1) := by decide +kernel
theorem dX8_init_93 : decode cX8_init 93 = .ok (.getfield 53, 3) := by decide +kernel
theorem dX8_init_96 : decode cX8_init 96 = .ok (.iload_n 1, 1) := by decide +kernel
theorem dX8_init_97 : decode cX8_init 97 = .ok (.new 51, 3) := by decide +kernel
theorem dX8_init_100 : decode cX8_init 100 = .ok (.dup, 1) := by decide +kernel
theorem dX8_init_101 : decode cX8_init 101 = .ok (.invokespecial 60, 3) := by decide +kernel
theorem dX8_init_104 : decode cX8_init 104 = .ok (.aastore, 1) := by decide +kernel
theorem dX8_init_105 : decode cX8_init 105 = .ok (.iinc 1 1, 3) := by decide +kernel
theorem dX8_init_108 : decode cX8_init 108 = .ok (.goto (-21), 3) := by decide +kernel
theorem dX8_init_111 : decode cX8_init 111 = .ok (.return_, 1) := by decide +kernel
theorem dX8_feed_0 : decode cX8_feed 0 = .ok (.aload_n 0, 1) := by decide +kernel
theorem dX8_feed_1 : decode cX8_feed 1 = .ok (.getfield 33, 3) := by decide +kernel
theorem dX8_feed_4 : decode cX8_feed 4 = .ok (.getfield 61, 3) := by decide +kernel
theorem dX8_feed_7 : decode cX8_feed 7 = .ok (.astore_n 3, 1) := by decide +kernel
theorem dX8_feed_8 : decode cX8_feed 8 = .ok (.aload_n 3, 1) := by decide +kernel
theorem dX8_feed_9 : decode cX8_feed 9 = .ok (.getfield 65, 3) := by decide +kernel
theorem dX8_feed_12 : decode cX8_feed 12 = .ok (.bipush 8, 2) := by decide +kernel
theorem dX8_feed_14 : decode cX8_feed 14 = .ok (.iadd, 1) := by decide +kernel
theorem dX8_feed_15 : decode cX8_feed 15 = .ok (.sipush 240, 3) := by decide +kernel
theorem dX8_feed_18 : decode cX8_feed 18 = .ok (.if_icmp .le 6, 3) := by decide +kernel
theorem dX8_feed_21 : decode cX8_feed 21 = .ok (.bipush (-3), 2) := by decide +kernel
theorem dX8_feed_23 : decode cX8_feed 23 = .ok (.ireturn, 1) := by decide +kernel
theorem dX8_feed_24 : decode cX8_feed 24 = .ok (.aload_n 3, 1) := by decide +kernel
theorem dX8_feed_25 : decode cX8_feed 25 = .ok (.lload_n 1, 1) := by decide +kernel
theorem dX8_feed_26 : decode cX8_feed 26 = .ok (.invokevirtual 71, 3) := by decide +kernel
theorem dX8_feed_29 : decode cX8_feed 29 = .ok (.aload_n 3, 1) := by decide +kernel
theorem dX8_feed_30 : decode cX8_feed 30 = .ok (.getfield 65, 3) := by decide +kernel
theorem dX8_feed_33 : decode cX8_feed 33 = .ok (.ireturn, 1) := by decide +kernel
theorem dX8_end_0 : decode cX8_end 0 = .ok (.aload_n 0, 1) := by decide +kernel
theorem dX8_end_1 : decode cX8_end 1 = .ok (.getfield 33, 3) := by decide +kernel
theorem dX8_end_4 : decode cX8_end 4 = .ok (.getfield 61, 3) := by decide +kernel
theorem dX8_end_7 : decode cX8_end 7 = .ok (.getfield 65, 3) := by decide +kernel
theorem dX8_end_10 : decode cX8_end 10 = .ok (.istore_n 2, 1) := by decide +kernel
theorem dX8_end_11 : decode cX8_end 11 = .ok (.iload_n 1, 1) := by decide +kernel
theorem dX8_end_12 : decode cX8_end 12 = .ok (.ifCond .lt 8, 3) := by decide +kernel
theorem dX8_end_15 : decode cX8_end 15 = .ok (.iload_n 1, 1) := by decide +kernel
theorem dX8_end_16 : decode cX8_end 16 = .ok (.iload_n 2, 1) := by decide +kernel
theorem dX8_end_17 : decode cX8_end 17 = .ok (.if_icmp .le 5, 3) := by decide +kernel
theorem dX8_end_20 : decode cX8_end 20 = .ok (.iconst (-1), 1) := by decide +kernel
theorem dX8_end_21 : decode cX8_end 21 = .ok (.ireturn, 1) := by decide +kernel
theorem dX8_end_22 : decode cX8_end 22 = .ok (.aload_n 0, 1) := by decide +kernel
theorem dX8_end_23 : decode cX8_end 23 = .ok (.getfield 33, 3) := by decide +kernel
theorem dX8_end_26 : decode cX8_end 26 = .ok (.getfield 61, 3) := by decide +kernel
theorem dX8_end_29 : decode cX8_end 29 = .ok (.iload_n 1, 1) := by decide +kernel
theorem dX8_end_30 : decode cX8_end 30 = .ok (.putfield 65, 3) := by decide +kernel
theorem dX8_end_33 : decode cX8_end 33 = .ok (.iload_n 2, 1) := by decide +kernel
theorem dX8_end_34 : decode cX8_end 34 = .ok (.ireturn, 1) := by decide +kernel
theorem dX8_text_0 : decode cX8_text 0 = .ok (.aload_n 0, 1) := by decide +kernel
theorem dX8_text_1 : decode cX8_text 1 = .ok (.getfield 33, 3) := by decide +kernel
theorem dX8_text_4 : decode cX8_text 4 = .ok (.invokevirtual 75, 3) := by decide +kernel
theorem dX8_text_7 : decode cX8_text 7 = .ok (.istore_n 1, 1) := by decide +kernel
theorem dX8_text_8 : decode cX8_text 8 = .ok (.aload_n 0, 1) := by decide +kernel
theorem dX8_text_9 : decode cX8_text 9 = .ok (.getfield 33, 3) := by decide +kernel
theorem dX8_text_12 : decode cX8_text 12 = .ok (.getfield 61, 3) := by decide +kernel
theorem dX8_text_15 : decode cX8_text 15 = .ok (.iconst 0, 1) := by decide +kernel
theorem dX8_text_16 : decode cX8_text 16 = .ok (.putfield 65, 3) := by decide +kernel
theorem dX8_text_19 : decode cX8_text 19 = .ok (.aload_n 0, 1) := by decide +kernel
theorem dX8_text_20 : decode cX8_text 20 = .ok (.aload_n 0, 1) := by decide +kernel
theorem dX8_text_21 : decode cX8_text 21 = .ok (.getfield 33, 3) := by decide +kernel
theorem dX8_text_24 : decode cX8_text 24 = .ok (.getfield 79, 3) := by decide +kernel
theorem dX8_text_27 : decode cX8_text 27 = .ok (.putfield 82, 3) := by decide +kernel
theorem dX8_text_30 : decode cX8_text 30 = .ok (.iload_n 1, 1) := by decide +kernel
theorem dX8_text_31 : decode cX8_text 31 = .ok (.ifCond .ne 14, 3) := by decide +kernel
theorem dX8_text_34 : decode cX8_text 34 = .ok (.bipush (-10), 2) := by decide +kernel
theorem dX8_text_36 : decode cX8_text 36 = .ok (.aload_n 0, 1) := by decide +kernel
theorem dX8_text_37 : decode cX8_text 37 = .ok (.getfield 33, 3) := by decide +kernel
theorem dX8_text_40 : decode cX8_text 40 = .ok (.getfield 85, 3) := by decide +kernel
theorem dX8_text_43 : decode cX8_text 43 = .ok (.isub, 1) := by decide +kernel
theorem dX8_text_44 : decode cX8_text 44 = .ok (.ireturn, 1) := by decide +kernel
theorem dX8_text_45 : decode cX8_text 45 = .ok (.aload_n 0, 1) := by decide +kernel
theorem dX8_text_46 : decode cX8_text 46 = .ok (.getfield 10, 3) := by decide +kernel
theorem dX8_text_49 : decode cX8_text 49 = .ok (.aload_n 0, 1) := by decide +kernel
theorem dX8_text_50 : decode cX8_text 50 = .ok (.getfield 33, 3) := by decide +kernel
theorem dX8_text_53 : decode cX8_text 53 = .ok (.getfield 88, 3) := by decide +kernel
theorem dX8_text_56 : decode cX8_text 56 = .ok (.invokevirtual 91, 3) := by decide +kernel
theorem dX8_text_59 : decode cX8_text 59 = .ok (.aload_n 0, 1) := by decide +kernel
theorem dX8_text_60 : decode cX8_text 60 = .ok (.getfield 19, 3) := by decide +kernel
theorem dX8_text_63 : decode cX8_text 63 = .ok (.iconst 0, 1) := by decide +kernel
theorem dX8_text_64 : decode cX8_text 64 = .ok (.putfield 95, 3) := by decide +kernel
theorem dX8_text_67 : decode cX8_text 67 = .ok (.iconst 0, 1) := by decide +kernel
theorem dX8_text_68 : decode cX8_text 68 = .ok (.istore_n 2, 1) := by decide +kernel
theorem dX8_text_69 : decode cX8_text 69 = .ok (.iload_n 2, 1) := by decide +kernel
theorem dX8_text_70 : decode cX8_text 70 = .ok (.aload_n 0, 1) := by decide +kernel
theorem dX8_text_71 : decode cX8_text 71 = .ok (.getfield 10, 3) := by decide +kernel
theorem dX8_text_74 : decode cX8_text 74 = .ok (.getfield 98, 3) := by decide +kernel
theorem dX8_text_77 : decode cX8_text 77 = .ok (.if_icmp .ge 23, 3) := by decide +kernel
theorem dX8_text_80 : decode cX8_text 80 = .ok (.aload_n 0, 1) := by decide +kernel
theorem dX8_text_81 : decode cX8_text 81 = .ok (.getfield 19, 3) := by decide +kernel
theorem dX8_text_84 : decode cX8_text 84 = .ok (.aload_n 0, 1) := by decide +kernel
theorem dX8_text_85 : decode cX8_text 85 = .ok (.getfield 10, 3) := by decide +kernel
theorem dX8_text_88 : decode cX8_text 88 = .ok (.getfield 101, 3) := by decide +kernel
theorem dX8_text_91 : decode cX8_text 91 = .ok (.invokevirtual 104, 3) := by decide +kernel
theorem dX8_text_94 : decode cX8_text 94 = .ok (.iinc 2 1, 3) := by decide +kernel
theorem dX8_text_97 : decode cX8_text 97 = .ok (.goto (-28), 3) := by decide +kernel
theorem dX8_text_100 : decode cX8_text 100 = .ok (.aload_n 0, 1) := by decide +kernel
theorem dX8_text_101 : decode cX8_text 101 = .ok (.getfield 33, 3) := by decide +kernel
theorem dX8_text_104 : decode cX8_text 104 = .ok (.getfield 108, 3) := by decide +kernel
theorem dX8_text_107 : decode cX8_text 107 = .ok (.ireturn, 1) := by decide +kernel
theorem dX8_fault_0 : decode cX8_fault 0 = .ok (.aload_n 0, 1) := by decide +kernel
theorem dX8_fault_1 : decode cX8_fault 1 = .ok (.getfield 82, 3) := by decide +kernel
theorem dX8_fault_4 : decode cX8_fault 4 = .ok (.ireturn, 1) := by decide +kernel
theorem dX8_rule_0 : decode cX8_rule 0 = .ok (.iload_n 1, 1) := by decide +kernel
theorem dX8_rule_1 : decode cX8_rule 1 = .ok (.ifCond .ne 11, 3) := by decide +kernel
theorem dX8_rule_4 : decode cX8_rule 4 = .ok (.aload_n 0, 1) := by decide +kernel
theorem dX8_rule_5 : decode cX8_rule 5 = .ok (.getfield 10, 3) := by decide +kernel
theorem dX8_rule_8 : decode cX8_rule 8 = .ok (.getfield 101, 3) := by decide +kernel
theorem dX8_rule_11 : decode cX8_rule 11 = .ok (.ireturn, 1) := by decide +kernel
theorem dX8_rule_12 : decode cX8_rule 12 = .ok (.iload_n 1, 1) := by decide +kernel
theorem dX8_rule_13 : decode cX8_rule 13 = .ok (.iconst 1, 1) := by decide +kernel
theorem dX8_rule_14 : decode cX8_rule 14 = .ok (.if_icmp .ne 11, 3) := by decide +kernel
theorem dX8_rule_17 : decode cX8_rule 17 = .ok (.aload_n 0, 1) := by decide +kernel
theorem dX8_rule_18 : decode cX8_rule 18 = .ok (.getfield 10, 3) := by decide +kernel
theorem dX8_rule_21 : decode cX8_rule 21 = .ok (.getfield 111, 3) := by decide +kernel
theorem dX8_rule_24 : decode cX8_rule 24 = .ok (.ireturn, 1) := by decide +kernel
theorem dX8_rule_25 : decode cX8_rule 25 = .ok (.iload_n 1, 1) := by decide +kernel
theorem dX8_rule_26 : decode cX8_rule 26 = .ok (.bipush 10, 2) := by decide +kernel
theorem dX8_rule_28 : decode cX8_rule 28 = .ok (.if_icmp .lt 23, 3) := by decide +kernel
theorem dX8_rule_31 : decode cX8_rule 31 = .ok (.iload_n 1, 1) := by decide +kernel
theorem dX8_rule_32 : decode cX8_rule 32 = .ok (.bipush 59, 2) := by decide +kernel
theorem dX8_rule_34 : decode cX8_rule 34 = .ok (.if_icmp .gt 17, 3) := by decide +kernel
theorem dX8_rule_37 : decode cX8_rule 37 = .ok (.iload_n 1, 1) := by decide +kernel
theorem dX8_rule_38 : decode cX8_rule 38 = .ok (.bipush 10, 2) := by decide +kernel
theorem dX8_rule_40 : decode cX8_rule 40 = .ok (.irem, 1) := by decide +kernel
theorem dX8_rule_41 : decode cX8_rule 41 = .ok (.aload_n 0, 1) := by decide +kernel
theorem dX8_rule_42 : decode cX8_rule 42 = .ok (.getfield 10, 3) := by decide +kernel
theorem dX8_rule_45 : decode cX8_rule 45 = .ok (.getfield 101, 3) := by decide +kernel
theorem dX8_rule_48 : decode cX8_rule 48 = .ok (.if_icmp .lt 5, 3) := by decide +kernel
theorem dX8_rule_51 : decode cX8_rule 51 = .ok (.iconst (-1), 1) := by decide +kernel
theorem dX8_rule_52 : decode cX8_rule 52 = .ok (.ireturn, 1) := by decide +kernel
theorem dX8_rule_53 : decode cX8_rule 53 = .ok (.iload_n 1, 1) := by decide +kernel
theorem dX8_rule_54 : decode cX8_rule 54 = .ok (.bipush 10, 2) := by decide +kernel
theorem dX8_rule_56 : decode cX8_rule 56 = .ok (.irem, 1) := by decide +kernel
theorem dX8_rule_57 : decode cX8_rule 57 = .ok (.istore_n 2, 1) := by decide +kernel
theorem dX8_rule_58 : decode cX8_rule 58 = .ok (.iload_n 1, 1) := by decide +kernel
theorem dX8_rule_59 : decode cX8_rule 59 = .ok (.bipush 10, 2) := by decide +kernel
theorem dX8_rule_61 : decode cX8_rule 61 = .ok (.idiv, 1) := by decide +kernel
theorem dX8_rule_62 : decode cX8_rule 62 = .ok (.tableswitch 70 1 4 #[30, 40, 50, 60], 30) := by decide +kernel
theorem dX8_rule_92 : decode cX8_rule 92 = .ok (.aload_n 0, 1) := by decide +kernel
theorem dX8_rule_93 : decode cX8_rule 93 = .ok (.getfield 10, 3) := by decide +kernel
theorem dX8_rule_96 : decode cX8_rule 96 = .ok (.getfield 114, 3) := by decide +kernel
theorem dX8_rule_99 : decode cX8_rule 99 = .ok (.iload_n 2, 1) := by decide +kernel
theorem dX8_rule_100 : decode cX8_rule 100 = .ok (.iaload, 1) := by decide +kernel
theorem dX8_rule_101 : decode cX8_rule 101 = .ok (.ireturn, 1) := by decide +kernel
theorem dX8_rule_102 : decode cX8_rule 102 = .ok (.aload_n 0, 1) := by decide +kernel
theorem dX8_rule_103 : decode cX8_rule 103 = .ok (.getfield 10, 3) := by decide +kernel
theorem dX8_rule_106 : decode cX8_rule 106 = .ok (.getfield 118, 3) := by decide +kernel
theorem dX8_rule_109 : decode cX8_rule 109 = .ok (.iload_n 2, 1) := by decide +kernel
theorem dX8_rule_110 : decode cX8_rule 110 = .ok (.iaload, 1) := by decide +kernel
theorem dX8_rule_111 : decode cX8_rule 111 = .ok (.ireturn, 1) := by decide +kernel
theorem dX8_rule_112 : decode cX8_rule 112 = .ok (.aload_n 0, 1) := by decide +kernel
theorem dX8_rule_113 : decode cX8_rule 113 = .ok (.getfield 10, 3) := by decide +kernel
theorem dX8_rule_116 : decode cX8_rule 116 = .ok (.getfield 121, 3) := by decide +kernel
theorem dX8_rule_119 : decode cX8_rule 119 = .ok (.iload_n 2, 1) := by decide +kernel
theorem dX8_rule_120 : decode cX8_rule 120 = .ok (.iaload, 1) := by decide +kernel
theorem dX8_rule_121 : decode cX8_rule 121 = .ok (.ireturn, 1) := by decide +kernel
theorem dX8_rule_122 : decode cX8_rule 122 = .ok (.aload_n 0, 1) := by decide +kernel
theorem dX8_rule_123 : decode cX8_rule 123 = .ok (.getfield 10, 3) := by decide +kernel
theorem dX8_rule_126 : decode cX8_rule 126 = .ok (.getfield 124, 3) := by decide +kernel
theorem dX8_rule_129 : decode cX8_rule 129 = .ok (.iload_n 2, 1) := by decide +kernel
theorem dX8_rule_130 : decode cX8_rule 130 = .ok (.iaload, 1) := by decide +kernel
theorem dX8_rule_131 : decode cX8_rule 131 = .ok (.ireturn, 1) := by decide +kernel
theorem dX8_rule_132 : decode cX8_rule 132 = .ok (.aload_n 0, 1) := by decide +kernel
theorem dX8_rule_133 : decode cX8_rule 133 = .ok (.getfield 10, 3) := by decide +kernel
theorem dX8_rule_136 : decode cX8_rule 136 = .ok (.getfield 127, 3) := by decide +kernel
theorem dX8_rule_139 : decode cX8_rule 139 = .ok (.iload_n 2, 1) := by decide +kernel
theorem dX8_rule_140 : decode cX8_rule 140 = .ok (.iaload, 1) := by decide +kernel
theorem dX8_rule_141 : decode cX8_rule 141 = .ok (.ireturn, 1) := by decide +kernel
theorem dX8_game_0 : decode cX8_game 0 = .ok (.aload_n 0, 1) := by decide +kernel
theorem dX8_game_1 : decode cX8_game 1 = .ok (.iload_n 1, 1) := by decide +kernel
theorem dX8_game_2 : decode cX8_game 2 = .ok (.invokevirtual 130, 3) := by decide +kernel
theorem dX8_game_5 : decode cX8_game 5 = .ok (.ifCond .eq 16, 3) := by decide +kernel
theorem dX8_game_8 : decode cX8_game 8 = .ok (.aload_n 0, 1) := by decide +kernel
theorem dX8_game_9 : decode cX8_game 9 = .ok (.iload_n 2, 1) := by decide +kernel
theorem dX8_game_10 : decode cX8_game 10 = .ok (.invokevirtual 130, 3) := by decide +kernel
theorem dX8_game_13 : decode cX8_game 13 = .ok (.ifCond .eq 8, 3) := by decide +kernel
theorem dX8_game_16 : decode cX8_game 16 = .ok (.iload_n 1, 1) := by decide +kernel
theorem dX8_game_17 : decode cX8_game 17 = .ok (.iload_n 2, 1) := by decide +kernel
theorem dX8_game_18 : decode cX8_game 18 = .ok (.if_icmp .ne 5, 3) := by decide +kernel
theorem dX8_game_21 : decode cX8_game 21 = .ok (.iconst (-1), 1) := by decide +kernel
theorem dX8_game_22 : decode cX8_game 22 = .ok (.ireturn, 1) := by decide +kernel
theorem dX8_game_23 : decode cX8_game 23 = .ok (.aload_n 0, 1) := by decide +kernel
theorem dX8_game_24 : decode cX8_game 24 = .ok (.getfield 19, 3) := by decide +kernel
theorem dX8_game_27 : decode cX8_game 27 = .ok (.getfield 95, 3) := by decide +kernel
theorem dX8_game_30 : decode cX8_game 30 = .ok (.bipush 30, 2) := by decide +kernel
theorem dX8_game_32 : decode cX8_game 32 = .ok (.if_icmp .lt 6, 3) := by decide +kernel
theorem dX8_game_35 : decode cX8_game 35 = .ok (.bipush (-3), 2) := by decide +kernel
theorem dX8_game_37 : decode cX8_game 37 = .ok (.ireturn, 1) := by decide +kernel
theorem dX8_game_38 : decode cX8_game 38 = .ok (.aload_n 0, 1) := by decide +kernel
theorem dX8_game_39 : decode cX8_game 39 = .ok (.getfield 19, 3) := by decide +kernel
theorem dX8_game_42 : decode cX8_game 42 = .ok (.iload_n 1, 1) := by decide +kernel
theorem dX8_game_43 : decode cX8_game 43 = .ok (.iload_n 2, 1) := by decide +kernel
theorem dX8_game_44 : decode cX8_game 44 = .ok (.invokevirtual 134, 3) := by decide +kernel
theorem dX8_game_47 : decode cX8_game 47 = .ok (.ireturn, 1) := by decide +kernel
theorem dX8_of_0 : decode cX8_of 0 = .ok (.aload_n 0, 1) := by decide +kernel
theorem dX8_of_1 : decode cX8_of 1 = .ok (.getfield 19, 3) := by decide +kernel
theorem dX8_of_4 : decode cX8_of 4 = .ok (.iload_n 1, 1) := by decide +kernel
theorem dX8_of_5 : decode cX8_of 5 = .ok (.invokevirtual 138, 3) := by decide +kernel
theorem dX8_of_8 : decode cX8_of 8 = .ok (.ifCond .ne 5, 3) := by decide +kernel
theorem dX8_of_11 : decode cX8_of 11 = .ok (.iconst (-1), 1) := by decide +kernel
theorem dX8_of_12 : decode cX8_of 12 = .ok (.ireturn, 1) := by decide +kernel
theorem dX8_of_13 : decode cX8_of 13 = .ok (.aload_n 0, 1) := by decide +kernel
theorem dX8_of_14 : decode cX8_of 14 = .ok (.getfield 19, 3) := by decide +kernel
theorem dX8_of_17 : decode cX8_of 17 = .ok (.getfield 141, 3) := by decide +kernel
theorem dX8_of_20 : decode cX8_of 20 = .ok (.iload_n 1, 1) := by decide +kernel
theorem dX8_of_21 : decode cX8_of 21 = .ok (.iaload, 1) := by decide +kernel
theorem dX8_of_22 : decode cX8_of 22 = .ok (.istore_n 3, 1) := by decide +kernel
theorem dX8_of_23 : decode cX8_of 23 = .ok (.aload_n 0, 1) := by decide +kernel
theorem dX8_of_24 : decode cX8_of 24 = .ok (.getfield 19, 3) := by decide +kernel
theorem dX8_of_27 : decode cX8_of 27 = .ok (.getfield 144, 3) := by decide +kernel
theorem dX8_of_30 : decode cX8_of 30 = .ok (.iload_n 1, 1) := by decide +kernel
theorem dX8_of_31 : decode cX8_of 31 = .ok (.iaload, 1) := by decide +kernel
theorem dX8_of_32 : decode cX8_of 32 = .ok (.istore 4, 2) := by decide +kernel
theorem dX8_of_34 : decode cX8_of 34 = .ok (.iload_n 2, 1) := by decide +kernel
theorem dX8_of_35 : decode cX8_of 35 = .ok (.tableswitch 127 0 5 #[37, 39, 42, 52, 75, 101], 37) := by decide +kernel
theorem dX8_of_72 : decode cX8_of 72 = .ok (.iload_n 3, 1) := by decide +kernel
theorem dX8_of_73 : decode cX8_of 73 = .ok (.ireturn, 1) := by decide +kernel
theorem dX8_of_74 : decode cX8_of 74 = .ok (.iload 4, 2) := by decide +kernel
theorem dX8_of_76 : decode cX8_of 76 = .ok (.ireturn, 1) := by decide +kernel
theorem dX8_of_77 : decode cX8_of 77 = .ok (.aload_n 0, 1) := by decide +kernel
theorem dX8_of_78 : decode cX8_of 78 = .ok (.getfield 19, 3) := by decide +kernel
theorem dX8_of_81 : decode cX8_of 81 = .ok (.getfield 147, 3) := by decide +kernel
theorem dX8_of_84 : decode cX8_of 84 = .ok (.iload_n 1, 1) := by decide +kernel
theorem dX8_of_85 : decode cX8_of 85 = .ok (.iaload, 1) := by decide +kernel
theorem dX8_of_86 : decode cX8_of 86 = .ok (.ireturn, 1) := by decide +kernel
theorem dX8_of_87 : decode cX8_of 87 = .ok (.aload_n 0, 1) := by decide +kernel
theorem dX8_of_88 : decode cX8_of 88 = .ok (.getfield 10, 3) := by decide +kernel
theorem dX8_of_91 : decode cX8_of 91 = .ok (.getfield 114, 3) := by decide +kernel
theorem dX8_of_94 : decode cX8_of 94 = .ok (.iload_n 3, 1) := by decide +kernel
theorem dX8_of_95 : decode cX8_of 95 = .ok (.iaload, 1) := by decide +kernel
theorem dX8_of_96 : decode cX8_of 96 = .ok (.aload_n 0, 1) := by decide +kernel
theorem dX8_of_97 : decode cX8_of 97 = .ok (.getfield 10, 3) := by decide +kernel
theorem dX8_of_100 : decode cX8_of 100 = .ok (.getfield 114, 3) := by decide +kernel
theorem dX8_of_103 : decode cX8_of 103 = .ok (.iload 4, 2) := by decide +kernel
theorem dX8_of_105 : decode cX8_of 105 = .ok (.iaload, 1) := by decide +kernel
theorem dX8_of_106 : decode cX8_of 106 = .ok (.invokestatic 150, 3) := by decide +kernel
theorem dX8_of_109 : decode cX8_of 109 = .ok (.ireturn, 1) := by decide +kernel
theorem dX8_of_110 : decode cX8_of 110 = .ok (.aload_n 0, 1) := by decide +kernel
theorem dX8_of_111 : decode cX8_of 111 = .ok (.getfield 10, 3) := by decide +kernel
theorem dX8_of_114 : decode cX8_of 114 = .ok (.getfield 114, 3) := by decide +kernel
theorem dX8_of_117 : decode cX8_of 117 = .ok (.iload_n 3, 1) := by decide +kernel
theorem dX8_of_118 : decode cX8_of 118 = .ok (.iaload, 1) := by decide +kernel
theorem dX8_of_119 : decode cX8_of 119 = .ok (.invokestatic 153, 3) := by decide +kernel
theorem dX8_of_122 : decode cX8_of 122 = .ok (.aload_n 0, 1) := by decide +kernel
theorem dX8_of_123 : decode cX8_of 123 = .ok (.getfield 10, 3) := by decide +kernel
theorem dX8_of_126 : decode cX8_of 126 = .ok (.getfield 114, 3) := by decide +kernel
theorem dX8_of_129 : decode cX8_of 129 = .ok (.iload 4, 2) := by decide +kernel
theorem dX8_of_131 : decode cX8_of 131 = .ok (.iaload, 1) := by decide +kernel
theorem dX8_of_132 : decode cX8_of 132 = .ok (.invokestatic 150, 3) := by decide +kernel
theorem dX8_of_135 : decode cX8_of 135 = .ok (.ireturn, 1) := by decide +kernel
theorem dX8_of_136 : decode cX8_of 136 = .ok (.aload_n 0, 1) := by decide +kernel
theorem dX8_of_137 : decode cX8_of 137 = .ok (.getfield 10, 3) := by decide +kernel
theorem dX8_of_140 : decode cX8_of 140 = .ok (.getfield 114, 3) := by decide +kernel
theorem dX8_of_143 : decode cX8_of 143 = .ok (.iload_n 3, 1) := by decide +kernel
theorem dX8_of_144 : decode cX8_of 144 = .ok (.iaload, 1) := by decide +kernel
theorem dX8_of_145 : decode cX8_of 145 = .ok (.aload_n 0, 1) := by decide +kernel
theorem dX8_of_146 : decode cX8_of 146 = .ok (.getfield 10, 3) := by decide +kernel
theorem dX8_of_149 : decode cX8_of 149 = .ok (.getfield 114, 3) := by decide +kernel
theorem dX8_of_152 : decode cX8_of 152 = .ok (.iload 4, 2) := by decide +kernel
theorem dX8_of_154 : decode cX8_of 154 = .ok (.iaload, 1) := by decide +kernel
theorem dX8_of_155 : decode cX8_of 155 = .ok (.invokestatic 153, 3) := by decide +kernel
theorem dX8_of_158 : decode cX8_of 158 = .ok (.invokestatic 150, 3) := by decide +kernel
theorem dX8_of_161 : decode cX8_of 161 = .ok (.ireturn, 1) := by decide +kernel
theorem dX8_of_162 : decode cX8_of 162 = .ok (.iconst (-1), 1) := by decide +kernel
theorem dX8_of_163 : decode cX8_of 163 = .ok (.ireturn, 1) := by decide +kernel
theorem dX8_ends_0 : decode cX8_ends 0 = .ok (.aload_n 0, 1) := by decide +kernel
theorem dX8_ends_1 : decode cX8_ends 1 = .ok (.getfield 19, 3) := by decide +kernel
theorem dX8_ends_4 : decode cX8_ends 4 = .ok (.iload_n 1, 1) := by decide +kernel
theorem dX8_ends_5 : decode cX8_ends 5 = .ok (.invokevirtual 138, 3) := by decide +kernel
theorem dX8_ends_8 : decode cX8_ends 8 = .ok (.ifCond .eq 12, 3) := by decide +kernel
theorem dX8_ends_11 : decode cX8_ends 11 = .ok (.iload_n 2, 1) := by decide +kernel
theorem dX8_ends_12 : decode cX8_ends 12 = .ok (.ifCond .lt 8, 3) := by decide +kernel
theorem dX8_ends_15 : decode cX8_ends 15 = .ok (.iload_n 2, 1) := by decide +kernel
theorem dX8_ends_16 : decode cX8_ends 16 = .ok (.iconst 2, 1) := by decide +kernel
theorem dX8_ends_17 : decode cX8_ends 17 = .ok (.if_icmp .le 5, 3) := by decide +kernel
theorem dX8_ends_20 : decode cX8_ends 20 = .ok (.iconst (-1), 1) := by decide +kernel
theorem dX8_ends_21 : decode cX8_ends 21 = .ok (.ireturn, 1) := by decide +kernel
theorem dX8_ends_22 : decode cX8_ends 22 = .ok (.aload_n 0, 1) := by decide +kernel
theorem dX8_ends_23 : decode cX8_ends 23 = .ok (.getfield 19, 3) := by decide +kernel
theorem dX8_ends_26 : decode cX8_ends 26 = .ok (.getfield 147, 3) := by decide +kernel
theorem dX8_ends_29 : decode cX8_ends 29 = .ok (.iload_n 1, 1) := by decide +kernel
theorem dX8_ends_30 : decode cX8_ends 30 = .ok (.iaload, 1) := by decide +kernel
theorem dX8_ends_31 : decode cX8_ends 31 = .ok (.istore_n 3, 1) := by decide +kernel
theorem dX8_ends_32 : decode cX8_ends 32 = .ok (.aload_n 0, 1) := by decide +kernel
theorem dX8_ends_33 : decode cX8_ends 33 = .ok (.getfield 19, 3) := by decide +kernel
theorem dX8_ends_36 : decode cX8_ends 36 = .ok (.getfield 147, 3) := by decide +kernel
theorem dX8_ends_39 : decode cX8_ends 39 = .ok (.iload_n 1, 1) := by decide +kernel
theorem dX8_ends_40 : decode cX8_ends 40 = .ok (.iload_n 2, 1) := by decide +kernel
theorem dX8_ends_41 : decode cX8_ends 41 = .ok (.iastore, 1) := by decide +kernel
theorem dX8_ends_42 : decode cX8_ends 42 = .ok (.iload_n 3, 1) := by decide +kernel
theorem dX8_ends_43 : decode cX8_ends 43 = .ok (.ireturn, 1) := by decide +kernel
theorem dX8_table_0 : decode cX8_table 0 = .ok (.aload_n 0, 1) := by decide +kernel
theorem dX8_table_1 : decode cX8_table 1 = .ok (.iload_n 1, 1) := by decide +kernel
theorem dX8_table_2 : decode cX8_table 2 = .ok (.invokevirtual 130, 3) := by decide +kernel
theorem dX8_table_5 : decode cX8_table 5 = .ok (.ifCond .eq 12, 3) := by decide +kernel
theorem dX8_table_8 : decode cX8_table 8 = .ok (.iload_n 2, 1) := by decide +kernel
theorem dX8_table_9 : decode cX8_table 9 = .ok (.ifCond .lt 8, 3) := by decide +kernel
theorem dX8_table_12 : decode cX8_table 12 = .ok (.iload_n 2, 1) := by decide +kernel
theorem dX8_table_13 : decode cX8_table 13 = .ok (.iconst 2, 1) := by decide +kernel
theorem dX8_table_14 : decode cX8_table 14 = .ok (.if_icmp .le 5, 3) := by decide +kernel
theorem dX8_table_17 : decode cX8_table 17 = .ok (.iconst (-1), 1) := by decide +kernel
theorem dX8_table_18 : decode cX8_table 18 = .ok (.ireturn, 1) := by decide +kernel
theorem dX8_table_19 : decode cX8_table 19 = .ok (.aload_n 0, 1) := by decide +kernel
theorem dX8_table_20 : decode cX8_table 20 = .ok (.getfield 26, 3) := by decide +kernel
theorem dX8_table_23 : decode cX8_table 23 = .ok (.aload_n 0, 1) := by decide +kernel
theorem dX8_table_24 : decode cX8_table 24 = .ok (.getfield 19, 3) := by decide +kernel
theorem dX8_table_27 : decode cX8_table 27 = .ok (.aload_n 0, 1) := by decide +kernel
theorem dX8_table_28 : decode cX8_table 28 = .ok (.getfield 10, 3) := by decide +kernel
theorem dX8_table_31 : decode cX8_table 31 = .ok (.getfield 101, 3) := by decide +kernel
theorem dX8_table_34 : decode cX8_table 34 = .ok (.invokevirtual 157, 3) := by decide +kernel
theorem dX8_table_37 : decode cX8_table 37 = .ok (.aload_n 0, 1) := by decide +kernel
theorem dX8_table_38 : decode cX8_table 38 = .ok (.getfield 26, 3) := by decide +kernel
theorem dX8_table_41 : decode cX8_table 41 = .ok (.getfield 161, 3) := by decide +kernel
theorem dX8_table_44 : decode cX8_table 44 = .ok (.iload_n 1, 1) := by decide +kernel
theorem dX8_table_45 : decode cX8_table 45 = .ok (.iaload, 1) := by decide +kernel
theorem dX8_table_46 : decode cX8_table 46 = .ok (.istore_n 3, 1) := by decide +kernel
theorem dX8_table_47 : decode cX8_table 47 = .ok (.iload_n 2, 1) := by decide +kernel
theorem dX8_table_48 : decode cX8_table 48 = .ok (.lookupswitch 40 #[(0, 28), (1, 30)], 28) := by decide +kernel
theorem dX8_table_76 : decode cX8_table 76 = .ok (.iload_n 3, 1) := by decide +kernel
theorem dX8_table_77 : decode cX8_table 77 = .ok (.ireturn, 1) := by decide +kernel
theorem dX8_table_78 : decode cX8_table 78 = .ok (.aload_n 0, 1) := by decide +kernel
theorem dX8_table_79 : decode cX8_table 79 = .ok (.getfield 26, 3) := by decide +kernel
theorem dX8_table_82 : decode cX8_table 82 = .ok (.getfield 164, 3) := by decide +kernel
theorem dX8_table_85 : decode cX8_table 85 = .ok (.iload_n 3, 1) := by decide +kernel
theorem dX8_table_86 : decode cX8_table 86 = .ok (.iaload, 1) := by decide +kernel
theorem dX8_table_87 : decode cX8_table 87 = .ok (.ireturn, 1) := by decide +kernel
theorem dX8_table_88 : decode cX8_table 88 = .ok (.aload_n 0, 1) := by decide +kernel
theorem dX8_table_89 : decode cX8_table 89 = .ok (.getfield 19, 3) := by decide +kernel
theorem dX8_table_92 : decode cX8_table 92 = .ok (.iload_n 3, 1) := by decide +kernel
theorem dX8_table_93 : decode cX8_table 93 = .ok (.invokevirtual 167, 3) := by decide +kernel
theorem dX8_table_96 : decode cX8_table 96 = .ok (.ireturn, 1) := by decide +kernel
theorem dX8_may_0 : decode cX8_may 0 = .ok (.aload_n 0, 1) := by decide +kernel
theorem dX8_may_1 : decode cX8_may 1 = .ok (.iload_n 1, 1) := by decide +kernel
theorem dX8_may_2 : decode cX8_may 2 = .ok (.invokevirtual 130, 3) := by decide +kernel
theorem dX8_may_5 : decode cX8_may 5 = .ok (.ifCond .eq 11, 3) := by decide +kernel
theorem dX8_may_8 : decode cX8_may 8 = .ok (.aload_n 0, 1) := by decide +kernel
theorem dX8_may_9 : decode cX8_may 9 = .ok (.iload_n 2, 1) := by decide +kernel
theorem dX8_may_10 : decode cX8_may 10 = .ok (.invokevirtual 130, 3) := by decide +kernel
theorem dX8_may_13 : decode cX8_may 13 = .ok (.ifCond .ne 5, 3) := by decide +kernel
theorem dX8_may_16 : decode cX8_may 16 = .ok (.iconst (-1), 1) := by decide +kernel
theorem dX8_may_17 : decode cX8_may 17 = .ok (.ireturn, 1) := by decide +kernel
theorem dX8_may_18 : decode cX8_may 18 = .ok (.aload_n 0, 1) := by decide +kernel
theorem dX8_may_19 : decode cX8_may 19 = .ok (.getfield 19, 3) := by decide +kernel
theorem dX8_may_22 : decode cX8_may 22 = .ok (.invokevirtual 170, 3) := by decide +kernel
theorem dX8_may_25 : decode cX8_may 25 = .ok (.bipush 7, 2) := by decide +kernel
theorem dX8_may_27 : decode cX8_may 27 = .ok (.if_icmp .le 6, 3) := by decide +kernel
theorem dX8_may_30 : decode cX8_may 30 = .ok (.bipush (-2), 2) := by decide +kernel
theorem dX8_may_32 : decode cX8_may 32 = .ok (.ireturn, 1) := by decide +kernel
theorem dX8_may_33 : decode cX8_may 33 = .ok (.aload_n 0, 1) := by decide +kernel
theorem dX8_may_34 : decode cX8_may 34 = .ok (.getfield 40, 3) := by decide +kernel
theorem dX8_may_37 : decode cX8_may 37 = .ok (.aload_n 0, 1) := by decide +kernel
theorem dX8_may_38 : decode cX8_may 38 = .ok (.getfield 10, 3) := by decide +kernel
theorem dX8_may_41 : decode cX8_may 41 = .ok (.aload_n 0, 1) := by decide +kernel
theorem dX8_may_42 : decode cX8_may 42 = .ok (.getfield 19, 3) := by decide +kernel
theorem dX8_may_45 : decode cX8_may 45 = .ok (.iload_n 1, 1) := by decide +kernel
theorem dX8_may_46 : decode cX8_may 46 = .ok (.iload_n 2, 1) := by decide +kernel
theorem dX8_may_47 : decode cX8_may 47 = .ok (.invokevirtual 174, 3) := by decide +kernel
theorem dX8_may_50 : decode cX8_may 50 = .ok (.ifCond .eq 7, 3) := by decide +kernel
theorem dX8_may_53 : decode cX8_may 53 = .ok (.iconst 1, 1) := by decide +kernel
theorem dX8_may_54 : decode cX8_may 54 = .ok (.goto 4, 3) := by decide +kernel
theorem dX8_may_57 : decode cX8_may 57 = .ok (.iconst 0, 1) := by decide +kernel
theorem dX8_may_58 : decode cX8_may 58 = .ok (.ireturn, 1) := by decide +kernel
theorem dX8_out_0 : decode cX8_out 0 = .ok (.aload_n 0, 1) := by decide +kernel
theorem dX8_out_1 : decode cX8_out 1 = .ok (.iload_n 1, 1) := by decide +kernel
theorem dX8_out_2 : decode cX8_out 2 = .ok (.invokevirtual 130, 3) := by decide +kernel
theorem dX8_out_5 : decode cX8_out 5 = .ok (.ifCond .ne 5, 3) := by decide +kernel
theorem dX8_out_8 : decode cX8_out 8 = .ok (.iconst (-1), 1) := by decide +kernel
theorem dX8_out_9 : decode cX8_out 9 = .ok (.ireturn, 1) := by decide +kernel
theorem dX8_out_10 : decode cX8_out 10 = .ok (.aload_n 0, 1) := by decide +kernel
theorem dX8_out_11 : decode cX8_out 11 = .ok (.getfield 26, 3) := by decide +kernel
theorem dX8_out_14 : decode cX8_out 14 = .ok (.aload_n 0, 1) := by decide +kernel
theorem dX8_out_15 : decode cX8_out 15 = .ok (.getfield 19, 3) := by decide +kernel
theorem dX8_out_18 : decode cX8_out 18 = .ok (.aload_n 0, 1) := by decide +kernel
theorem dX8_out_19 : decode cX8_out 19 = .ok (.getfield 10, 3) := by decide +kernel
theorem dX8_out_22 : decode cX8_out 22 = .ok (.getfield 101, 3) := by decide +kernel
theorem dX8_out_25 : decode cX8_out 25 = .ok (.invokevirtual 157, 3) := by decide +kernel
theorem dX8_out_28 : decode cX8_out 28 = .ok (.aload_n 0, 1) := by decide +kernel
theorem dX8_out_29 : decode cX8_out 29 = .ok (.getfield 26, 3) := by decide +kernel
theorem dX8_out_32 : decode cX8_out 32 = .ok (.aload_n 0, 1) := by decide +kernel
theorem dX8_out_33 : decode cX8_out 33 = .ok (.getfield 19, 3) := by decide +kernel
theorem dX8_out_36 : decode cX8_out 36 = .ok (.invokevirtual 178, 3) := by decide +kernel
theorem dX8_out_39 : decode cX8_out 39 = .ok (.aload_n 0, 1) := by decide +kernel
theorem dX8_out_40 : decode cX8_out 40 = .ok (.getfield 26, 3) := by decide +kernel
theorem dX8_out_43 : decode cX8_out 43 = .ok (.getfield 182, 3) := by decide +kernel
theorem dX8_out_46 : decode cX8_out 46 = .ok (.iload_n 1, 1) := by decide +kernel
theorem dX8_out_47 : decode cX8_out 47 = .ok (.iaload, 1) := by decide +kernel
theorem dX8_out_48 : decode cX8_out 48 = .ok (.ireturn, 1) := by decide +kernel
theorem dX8_chooses_0 : decode cX8_chooses 0 = .ok (.aload_n 0, 1) := by decide +kernel
theorem dX8_chooses_1 : decode cX8_chooses 1 = .ok (.iload_n 1, 1) := by decide +kernel
theorem dX8_chooses_2 : decode cX8_chooses 2 = .ok (.invokevirtual 130, 3) := by decide +kernel
theorem dX8_chooses_5 : decode cX8_chooses 5 = .ok (.ifCond .ne 5, 3) := by decide +kernel
theorem dX8_chooses_8 : decode cX8_chooses 8 = .ok (.iconst (-1), 1) := by decide +kernel
theorem dX8_chooses_9 : decode cX8_chooses 9 = .ok (.ireturn, 1) := by decide +kernel
theorem dX8_chooses_10 : decode cX8_chooses 10 = .ok (.aload_n 0, 1) := by decide +kernel
theorem dX8_chooses_11 : decode cX8_chooses 11 = .ok (.getfield 26, 3) := by decide +kernel
theorem dX8_chooses_14 : decode cX8_chooses 14 = .ok (.aload_n 0, 1) := by decide +kernel
theorem dX8_chooses_15 : decode cX8_chooses 15 = .ok (.getfield 19, 3) := by decide +kernel
theorem dX8_chooses_18 : decode cX8_chooses 18 = .ok (.aload_n 0, 1) := by decide +kernel
theorem dX8_chooses_19 : decode cX8_chooses 19 = .ok (.getfield 10, 3) := by decide +kernel
theorem dX8_chooses_22 : decode cX8_chooses 22 = .ok (.getfield 101, 3) := by decide +kernel
theorem dX8_chooses_25 : decode cX8_chooses 25 = .ok (.invokevirtual 157, 3) := by decide +kernel
theorem dX8_chooses_28 : decode cX8_chooses 28 = .ok (.aload_n 0, 1) := by decide +kernel
theorem dX8_chooses_29 : decode cX8_chooses 29 = .ok (.getfield 10, 3) := by decide +kernel
theorem dX8_chooses_32 : decode cX8_chooses 32 = .ok (.getfield 111, 3) := by decide +kernel
theorem dX8_chooses_35 : decode cX8_chooses 35 = .ok (.iconst 1, 1) := by decide +kernel
theorem dX8_chooses_36 : decode cX8_chooses 36 = .ok (.if_icmp .ne 28, 3) := by decide +kernel
theorem dX8_chooses_39 : decode cX8_chooses 39 = .ok (.aload_n 0, 1) := by decide +kernel
theorem dX8_chooses_40 : decode cX8_chooses 40 = .ok (.iload_n 2, 1) := by decide +kernel
theorem dX8_chooses_41 : decode cX8_chooses 41 = .ok (.invokevirtual 130, 3) := by decide +kernel
theorem dX8_chooses_44 : decode cX8_chooses 44 = .ok (.ifCond .eq 18, 3) := by decide +kernel
theorem dX8_chooses_47 : decode cX8_chooses 47 = .ok (.aload_n 0, 1) := by decide +kernel
theorem dX8_chooses_48 : decode cX8_chooses 48 = .ok (.getfield 26, 3) := by decide +kernel
theorem dX8_chooses_51 : decode cX8_chooses 51 = .ok (.aload_n 0, 1) := by decide +kernel
theorem dX8_chooses_52 : decode cX8_chooses 52 = .ok (.getfield 10, 3) := by decide +kernel
theorem dX8_chooses_55 : decode cX8_chooses 55 = .ok (.iload_n 2, 1) := by decide +kernel
theorem dX8_chooses_56 : decode cX8_chooses 56 = .ok (.invokevirtual 185, 3) := by decide +kernel
theorem dX8_chooses_59 : decode cX8_chooses 59 = .ok (.ifCond .ne 5, 3) := by decide +kernel
theorem dX8_chooses_62 : decode cX8_chooses 62 = .ok (.iconst (-1), 1) := by decide +kernel
theorem dX8_chooses_63 : decode cX8_chooses 63 = .ok (.ireturn, 1) := by decide +kernel
theorem dX8_chooses_64 : decode cX8_chooses 64 = .ok (.aload_n 0, 1) := by decide +kernel
theorem dX8_chooses_65 : decode cX8_chooses 65 = .ok (.getfield 19, 3) := by decide +kernel
theorem dX8_chooses_68 : decode cX8_chooses 68 = .ok (.invokevirtual 170, 3) := by decide +kernel
theorem dX8_chooses_71 : decode cX8_chooses 71 = .ok (.ifCond .le 6, 3) := by decide +kernel
theorem dX8_chooses_74 : decode cX8_chooses 74 = .ok (.bipush (-2), 2) := by decide +kernel
theorem dX8_chooses_76 : decode cX8_chooses 76 = .ok (.ireturn, 1) := by decide +kernel
theorem dX8_chooses_77 : decode cX8_chooses 77 = .ok (.aload_n 0, 1) := by decide +kernel
theorem dX8_chooses_78 : decode cX8_chooses 78 = .ok (.getfield 10, 3) := by decide +kernel
theorem dX8_chooses_81 : decode cX8_chooses 81 = .ok (.getfield 111, 3) := by decide +kernel
theorem dX8_chooses_84 : decode cX8_chooses 84 = .ok (.iconst 4, 1) := by decide +kernel
theorem dX8_chooses_85 : decode cX8_chooses 85 = .ok (.if_icmp .ne 6, 3) := by decide +kernel
theorem dX8_chooses_88 : decode cX8_chooses 88 = .ok (.bipush (-4), 2) := by decide +kernel
theorem dX8_chooses_90 : decode cX8_chooses 90 = .ok (.ireturn, 1) := by decide +kernel
theorem dX8_chooses_91 : decode cX8_chooses 91 = .ok (.aload_n 0, 1) := by decide +kernel
theorem dX8_chooses_92 : decode cX8_chooses 92 = .ok (.getfield 26, 3) := by decide +kernel
theorem dX8_chooses_95 : decode cX8_chooses 95 = .ok (.aload_n 0, 1) := by decide +kernel
theorem dX8_chooses_96 : decode cX8_chooses 96 = .ok (.getfield 19, 3) := by decide +kernel
theorem dX8_chooses_99 : decode cX8_chooses 99 = .ok (.invokevirtual 178, 3) := by decide +kernel
theorem dX8_chooses_102 : decode cX8_chooses 102 = .ok (.aload_n 0, 1) := by decide +kernel
theorem dX8_chooses_103 : decode cX8_chooses 103 = .ok (.getfield 26, 3) := by decide +kernel
theorem dX8_chooses_106 : decode cX8_chooses 106 = .ok (.aload_n 0, 1) := by decide +kernel
theorem dX8_chooses_107 : decode cX8_chooses 107 = .ok (.getfield 10, 3) := by decide +kernel
theorem dX8_chooses_110 : decode cX8_chooses 110 = .ok (.iload_n 2, 1) := by decide +kernel
theorem dX8_chooses_111 : decode cX8_chooses 111 = .ok (.invokevirtual 189, 3) := by decide +kernel
theorem dX8_chooses_114 : decode cX8_chooses 114 = .ok (.aload_n 0, 1) := by decide +kernel
theorem dX8_chooses_115 : decode cX8_chooses 115 = .ok (.getfield 26, 3) := by decide +kernel
theorem dX8_chooses_118 : decode cX8_chooses 118 = .ok (.getfield 193, 3) := by decide +kernel
theorem dX8_chooses_121 : decode cX8_chooses 121 = .ok (.iload_n 1, 1) := by decide +kernel
theorem dX8_chooses_122 : decode cX8_chooses 122 = .ok (.iaload, 1) := by decide +kernel
theorem dX8_chooses_123 : decode cX8_chooses 123 = .ok (.ireturn, 1) := by decide +kernel
theorem dX8_pay_0 : decode cX8_pay 0 = .ok (.aload_n 0, 1) := by decide +kernel
theorem dX8_pay_1 : decode cX8_pay 1 = .ok (.iload_n 1, 1) := by decide +kernel
theorem dX8_pay_2 : decode cX8_pay 2 = .ok (.invokevirtual 130, 3) := by decide +kernel
theorem dX8_pay_5 : decode cX8_pay 5 = .ok (.ifCond .eq 10, 3) := by decide +kernel
theorem dX8_pay_8 : decode cX8_pay 8 = .ok (.iload_n 2, 1) := by decide +kernel
theorem dX8_pay_9 : decode cX8_pay 9 = .ok (.invokestatic 196, 3) := by decide +kernel
theorem dX8_pay_12 : decode cX8_pay 12 = .ok (.ifCond .ne 5, 3) := by decide +kernel
theorem dX8_pay_15 : decode cX8_pay 15 = .ok (.iconst (-1), 1) := by decide +kernel
theorem dX8_pay_16 : decode cX8_pay 16 = .ok (.ireturn, 1) := by decide +kernel
theorem dX8_pay_17 : decode cX8_pay 17 = .ok (.aload_n 0, 1) := by decide +kernel
theorem dX8_pay_18 : decode cX8_pay 18 = .ok (.getfield 19, 3) := by decide +kernel
theorem dX8_pay_21 : decode cX8_pay 21 = .ok (.invokevirtual 170, 3) := by decide +kernel
theorem dX8_pay_24 : decode cX8_pay 24 = .ok (.ifCond .le 6, 3) := by decide +kernel
theorem dX8_pay_27 : decode cX8_pay 27 = .ok (.bipush (-2), 2) := by decide +kernel
theorem dX8_pay_29 : decode cX8_pay 29 = .ok (.ireturn, 1) := by decide +kernel
theorem dX8_pay_30 : decode cX8_pay 30 = .ok (.aload_n 0, 1) := by decide +kernel
theorem dX8_pay_31 : decode cX8_pay 31 = .ok (.getfield 40, 3) := by decide +kernel
theorem dX8_pay_34 : decode cX8_pay 34 = .ok (.aload_n 0, 1) := by decide +kernel
theorem dX8_pay_35 : decode cX8_pay 35 = .ok (.getfield 10, 3) := by decide +kernel
theorem dX8_pay_38 : decode cX8_pay 38 = .ok (.aload_n 0, 1) := by decide +kernel
theorem dX8_pay_39 : decode cX8_pay 39 = .ok (.getfield 19, 3) := by decide +kernel
theorem dX8_pay_42 : decode cX8_pay 42 = .ok (.invokevirtual 199, 3) := by decide +kernel
theorem dX8_pay_45 : decode cX8_pay 45 = .ok (.aload_n 0, 1) := by decide +kernel
theorem dX8_pay_46 : decode cX8_pay 46 = .ok (.getfield 40, 3) := by decide +kernel
theorem dX8_pay_49 : decode cX8_pay 49 = .ok (.iload_n 1, 1) := by decide +kernel
theorem dX8_pay_50 : decode cX8_pay 50 = .ok (.invokevirtual 203, 3) := by decide +kernel
theorem dX8_pay_53 : decode cX8_pay 53 = .ok (.aload_n 0, 1) := by decide +kernel
theorem dX8_pay_54 : decode cX8_pay 54 = .ok (.getfield 40, 3) := by decide +kernel
theorem dX8_pay_57 : decode cX8_pay 57 = .ok (.invokevirtual 207, 3) := by decide +kernel
theorem dX8_pay_60 : decode cX8_pay 60 = .ok (.iload_n 2, 1) := by decide +kernel
theorem dX8_pay_61 : decode cX8_pay 61 = .ok (.invokestatic 211, 3) := by decide +kernel
theorem dX8_pay_64 : decode cX8_pay 64 = .ok (.l2i, 1) := by decide +kernel
theorem dX8_pay_65 : decode cX8_pay 65 = .ok (.ireturn, 1) := by decide +kernel
theorem dX8_worth_0 : decode cX8_worth 0 = .ok (.aload_n 0, 1) := by decide +kernel
theorem dX8_worth_1 : decode cX8_worth 1 = .ok (.iload_n 1, 1) := by decide +kernel
theorem dX8_worth_2 : decode cX8_worth 2 = .ok (.invokevirtual 130, 3) := by decide +kernel
theorem dX8_worth_5 : decode cX8_worth 5 = .ok (.ifCond .eq 10, 3) := by decide +kernel
theorem dX8_worth_8 : decode cX8_worth 8 = .ok (.iload_n 2, 1) := by decide +kernel
theorem dX8_worth_9 : decode cX8_worth 9 = .ok (.invokestatic 196, 3) := by decide +kernel
theorem dX8_worth_12 : decode cX8_worth 12 = .ok (.ifCond .ne 7, 3) := by decide +kernel
theorem dX8_worth_15 : decode cX8_worth 15 = .ok (.ldc2_w 215, 3) := by decide +kernel
theorem dX8_worth_18 : decode cX8_worth 18 = .ok (.lreturn, 1) := by decide +kernel
theorem dX8_worth_19 : decode cX8_worth 19 = .ok (.aload_n 0, 1) := by decide +kernel
theorem dX8_worth_20 : decode cX8_worth 20 = .ok (.getfield 19, 3) := by decide +kernel
theorem dX8_worth_23 : decode cX8_worth 23 = .ok (.invokevirtual 170, 3) := by decide +kernel
theorem dX8_worth_26 : decode cX8_worth 26 = .ok (.bipush 7, 2) := by decide +kernel
theorem dX8_worth_28 : decode cX8_worth 28 = .ok (.if_icmp .le 7, 3) := by decide +kernel
theorem dX8_worth_31 : decode cX8_worth 31 = .ok (.ldc2_w 217, 3) := by decide +kernel
theorem dX8_worth_34 : decode cX8_worth 34 = .ok (.lreturn, 1) := by decide +kernel
theorem dX8_worth_35 : decode cX8_worth 35 = .ok (.aload_n 0, 1) := by decide +kernel
theorem dX8_worth_36 : decode cX8_worth 36 = .ok (.getfield 40, 3) := by decide +kernel
theorem dX8_worth_39 : decode cX8_worth 39 = .ok (.aload_n 0, 1) := by decide +kernel
theorem dX8_worth_40 : decode cX8_worth 40 = .ok (.getfield 10, 3) := by decide +kernel
theorem dX8_worth_43 : decode cX8_worth 43 = .ok (.aload_n 0, 1) := by decide +kernel
theorem dX8_worth_44 : decode cX8_worth 44 = .ok (.getfield 19, 3) := by decide +kernel
theorem dX8_worth_47 : decode cX8_worth 47 = .ok (.invokevirtual 199, 3) := by decide +kernel
theorem dX8_worth_50 : decode cX8_worth 50 = .ok (.aload_n 0, 1) := by decide +kernel
theorem dX8_worth_51 : decode cX8_worth 51 = .ok (.getfield 40, 3) := by decide +kernel
theorem dX8_worth_54 : decode cX8_worth 54 = .ok (.iload_n 1, 1) := by decide +kernel
theorem dX8_worth_55 : decode cX8_worth 55 = .ok (.invokevirtual 203, 3) := by decide +kernel
theorem dX8_worth_58 : decode cX8_worth 58 = .ok (.aload_n 0, 1) := by decide +kernel
theorem dX8_worth_59 : decode cX8_worth 59 = .ok (.getfield 40, 3) := by decide +kernel
theorem dX8_worth_62 : decode cX8_worth 62 = .ok (.invokevirtual 207, 3) := by decide +kernel
theorem dX8_worth_65 : decode cX8_worth 65 = .ok (.iload_n 2, 1) := by decide +kernel
theorem dX8_worth_66 : decode cX8_worth 66 = .ok (.invokestatic 211, 3) := by decide +kernel
theorem dX8_worth_69 : decode cX8_worth 69 = .ok (.lreturn, 1) := by decide +kernel
theorem dX8_worthIf_0 : decode cX8_worthIf 0 = .ok (.aload_n 0, 1) := by decide +kernel
theorem dX8_worthIf_1 : decode cX8_worthIf 1 = .ok (.iload_n 1, 1) := by decide +kernel
theorem dX8_worthIf_2 : decode cX8_worthIf 2 = .ok (.invokevirtual 130, 3) := by decide +kernel
theorem dX8_worthIf_5 : decode cX8_worthIf 5 = .ok (.ifCond .eq 34, 3) := by decide +kernel
theorem dX8_worthIf_8 : decode cX8_worthIf 8 = .ok (.aload_n 0, 1) := by decide +kernel
theorem dX8_worthIf_9 : decode cX8_worthIf 9 = .ok (.getfield 19, 3) := by decide +kernel
theorem dX8_worthIf_12 : decode cX8_worthIf 12 = .ok (.iload_n 2, 1) := by decide +kernel
theorem dX8_worthIf_13 : decode cX8_worthIf 13 = .ok (.invokevirtual 219, 3) := by decide +kernel
theorem dX8_worthIf_16 : decode cX8_worthIf 16 = .ok (.ifCond .eq 23, 3) := by decide +kernel
theorem dX8_worthIf_19 : decode cX8_worthIf 19 = .ok (.aload_n 0, 1) := by decide +kernel
theorem dX8_worthIf_20 : decode cX8_worthIf 20 = .ok (.getfield 19, 3) := by decide +kernel
theorem dX8_worthIf_23 : decode cX8_worthIf 23 = .ok (.iload_n 2, 1) := by decide +kernel
theorem dX8_worthIf_24 : decode cX8_worthIf 24 = .ok (.iload_n 1, 1) := by decide +kernel
theorem dX8_worthIf_25 : decode cX8_worthIf 25 = .ok (.invokevirtual 222, 3) := by decide +kernel
theorem dX8_worthIf_28 : decode cX8_worthIf 28 = .ok (.ifCond .eq 11, 3) := by decide +kernel
theorem dX8_worthIf_31 : decode cX8_worthIf 31 = .ok (.iload 4, 2) := by decide +kernel
theorem dX8_worthIf_33 : decode cX8_worthIf 33 = .ok (.invokestatic 196, 3) := by decide +kernel
theorem dX8_worthIf_36 : decode cX8_worthIf 36 = .ok (.ifCond .ne 7, 3) := by decide +kernel
theorem dX8_worthIf_39 : decode cX8_worthIf 39 = .ok (.ldc2_w 215, 3) := by decide +kernel
theorem dX8_worthIf_42 : decode cX8_worthIf 42 = .ok (.lreturn, 1) := by decide +kernel
theorem dX8_worthIf_43 : decode cX8_worthIf 43 = .ok (.aload_n 0, 1) := by decide +kernel
theorem dX8_worthIf_44 : decode cX8_worthIf 44 = .ok (.getfield 19, 3) := by decide +kernel
theorem dX8_worthIf_47 : decode cX8_worthIf 47 = .ok (.invokevirtual 170, 3) := by decide +kernel
theorem dX8_worthIf_50 : decode cX8_worthIf 50 = .ok (.bipush 7, 2) := by decide +kernel
theorem dX8_worthIf_52 : decode cX8_worthIf 52 = .ok (.if_icmp .le 7, 3) := by decide +kernel
theorem dX8_worthIf_55 : decode cX8_worthIf 55 = .ok (.ldc2_w 217, 3) := by decide +kernel
theorem dX8_worthIf_58 : decode cX8_worthIf 58 = .ok (.lreturn, 1) := by decide +kernel
theorem dX8_worthIf_59 : decode cX8_worthIf 59 = .ok (.aload_n 0, 1) := by decide +kernel
theorem dX8_worthIf_60 : decode cX8_worthIf 60 = .ok (.getfield 40, 3) := by decide +kernel
theorem dX8_worthIf_63 : decode cX8_worthIf 63 = .ok (.aload_n 0, 1) := by decide +kernel
theorem dX8_worthIf_64 : decode cX8_worthIf 64 = .ok (.getfield 10, 3) := by decide +kernel
theorem dX8_worthIf_67 : decode cX8_worthIf 67 = .ok (.aload_n 0, 1) := by decide +kernel
theorem dX8_worthIf_68 : decode cX8_worthIf 68 = .ok (.getfield 19, 3) := by decide +kernel
theorem dX8_worthIf_71 : decode cX8_worthIf 71 = .ok (.invokevirtual 199, 3) := by decide +kernel
theorem dX8_worthIf_74 : decode cX8_worthIf 74 = .ok (.aload_n 0, 1) := by decide +kernel
theorem dX8_worthIf_75 : decode cX8_worthIf 75 = .ok (.getfield 40, 3) := by decide +kernel
theorem dX8_worthIf_78 : decode cX8_worthIf 78 = .ok (.iload_n 1, 1) := by decide +kernel
theorem dX8_worthIf_79 : decode cX8_worthIf 79 = .ok (.iload_n 2, 1) := by decide +kernel
theorem dX8_worthIf_80 : decode cX8_worthIf 80 = .ok (.iload_n 3, 1) := by decide +kernel
theorem dX8_worthIf_81 : decode cX8_worthIf 81 = .ok (.invokevirtual 226, 3) := by decide +kernel
theorem dX8_worthIf_84 : decode cX8_worthIf 84 = .ok (.aload_n 0, 1) := by decide +kernel
theorem dX8_worthIf_85 : decode cX8_worthIf 85 = .ok (.getfield 40, 3) := by decide +kernel
theorem dX8_worthIf_88 : decode cX8_worthIf 88 = .ok (.invokevirtual 207, 3) := by decide +kernel
theorem dX8_worthIf_91 : decode cX8_worthIf 91 = .ok (.iload 4, 2) := by decide +kernel
theorem dX8_worthIf_93 : decode cX8_worthIf 93 = .ok (.invokestatic 211, 3) := by decide +kernel
theorem dX8_worthIf_96 : decode cX8_worthIf 96 = .ok (.lreturn, 1) := by decide +kernel
theorem dX8_wants_0 : decode cX8_wants 0 = .ok (.aload_n 0, 1) := by decide +kernel
theorem dX8_wants_1 : decode cX8_wants 1 = .ok (.getfield 19, 3) := by decide +kernel
theorem dX8_wants_4 : decode cX8_wants 4 = .ok (.iload_n 1, 1) := by decide +kernel
theorem dX8_wants_5 : decode cX8_wants 5 = .ok (.invokevirtual 219, 3) := by decide +kernel
theorem dX8_wants_8 : decode cX8_wants 8 = .ok (.ifCond .ne 5, 3) := by decide +kernel
theorem dX8_wants_11 : decode cX8_wants 11 = .ok (.iconst (-1), 1) := by decide +kernel
theorem dX8_wants_12 : decode cX8_wants 12 = .ok (.ireturn, 1) := by decide +kernel
theorem dX8_wants_13 : decode cX8_wants 13 = .ok (.aload_n 0, 1) := by decide +kernel
theorem dX8_wants_14 : decode cX8_wants 14 = .ok (.getfield 19, 3) := by decide +kernel
theorem dX8_wants_17 : decode cX8_wants 17 = .ok (.invokevirtual 170, 3) := by decide +kernel
theorem dX8_wants_20 : decode cX8_wants 20 = .ok (.bipush 7, 2) := by decide +kernel
theorem dX8_wants_22 : decode cX8_wants 22 = .ok (.if_icmp .le 6, 3) := by decide +kernel
theorem dX8_wants_25 : decode cX8_wants 25 = .ok (.bipush (-2), 2) := by decide +kernel
theorem dX8_wants_27 : decode cX8_wants 27 = .ok (.ireturn, 1) := by decide +kernel
theorem dX8_wants_28 : decode cX8_wants 28 = .ok (.aload_n 0, 1) := by decide +kernel
theorem dX8_wants_29 : decode cX8_wants 29 = .ok (.getfield 40, 3) := by decide +kernel
theorem dX8_wants_32 : decode cX8_wants 32 = .ok (.aload_n 0, 1) := by decide +kernel
theorem dX8_wants_33 : decode cX8_wants 33 = .ok (.getfield 10, 3) := by decide +kernel
theorem dX8_wants_36 : decode cX8_wants 36 = .ok (.aload_n 0, 1) := by decide +kernel
theorem dX8_wants_37 : decode cX8_wants 37 = .ok (.getfield 19, 3) := by decide +kernel
theorem dX8_wants_40 : decode cX8_wants 40 = .ok (.invokevirtual 199, 3) := by decide +kernel
theorem dX8_wants_43 : decode cX8_wants 43 = .ok (.aload_n 0, 1) := by decide +kernel
theorem dX8_wants_44 : decode cX8_wants 44 = .ok (.getfield 40, 3) := by decide +kernel
theorem dX8_wants_47 : decode cX8_wants 47 = .ok (.iload_n 1, 1) := by decide +kernel
theorem dX8_wants_48 : decode cX8_wants 48 = .ok (.invokevirtual 230, 3) := by decide +kernel
theorem dX8_wants_51 : decode cX8_wants 51 = .ok (.ireturn, 1) := by decide +kernel
theorem dX8_lose_0 : decode cX8_lose 0 = .ok (.iload_n 2, 1) := by decide +kernel
theorem dX8_lose_1 : decode cX8_lose 1 = .ok (.ifCond .lt 21, 3) := by decide +kernel
theorem dX8_lose_4 : decode cX8_lose 4 = .ok (.iload_n 2, 1) := by decide +kernel
theorem dX8_lose_5 : decode cX8_lose 5 = .ok (.iconst 2, 1) := by decide +kernel
theorem dX8_lose_6 : decode cX8_lose 6 = .ok (.if_icmp .gt 16, 3) := by decide +kernel
theorem dX8_lose_9 : decode cX8_lose 9 = .ok (.iload_n 2, 1) := by decide +kernel
theorem dX8_lose_10 : decode cX8_lose 10 = .ok (.iconst 1, 1) := by decide +kernel
theorem dX8_lose_11 : decode cX8_lose 11 = .ok (.if_icmp .eq 13, 3) := by decide +kernel
theorem dX8_lose_14 : decode cX8_lose 14 = .ok (.aload_n 0, 1) := by decide +kernel
theorem dX8_lose_15 : decode cX8_lose 15 = .ok (.iload_n 1, 1) := by decide +kernel
theorem dX8_lose_16 : decode cX8_lose 16 = .ok (.invokevirtual 130, 3) := by decide +kernel
theorem dX8_lose_19 : decode cX8_lose 19 = .ok (.ifCond .ne 5, 3) := by decide +kernel
theorem dX8_lose_22 : decode cX8_lose 22 = .ok (.iconst (-1), 1) := by decide +kernel
theorem dX8_lose_23 : decode cX8_lose 23 = .ok (.ireturn, 1) := by decide +kernel
theorem dX8_lose_24 : decode cX8_lose 24 = .ok (.aload_n 0, 1) := by decide +kernel
theorem dX8_lose_25 : decode cX8_lose 25 = .ok (.getfield 19, 3) := by decide +kernel
theorem dX8_lose_28 : decode cX8_lose 28 = .ok (.invokevirtual 170, 3) := by decide +kernel
theorem dX8_lose_31 : decode cX8_lose 31 = .ok (.bipush 7, 2) := by decide +kernel
theorem dX8_lose_33 : decode cX8_lose 33 = .ok (.if_icmp .le 6, 3) := by decide +kernel
theorem dX8_lose_36 : decode cX8_lose 36 = .ok (.bipush (-2), 2) := by decide +kernel
theorem dX8_lose_38 : decode cX8_lose 38 = .ok (.ireturn, 1) := by decide +kernel
theorem dX8_lose_39 : decode cX8_lose 39 = .ok (.aload_n 0, 1) := by decide +kernel
theorem dX8_lose_40 : decode cX8_lose 40 = .ok (.getfield 40, 3) := by decide +kernel
theorem dX8_lose_43 : decode cX8_lose 43 = .ok (.aload_n 0, 1) := by decide +kernel
theorem dX8_lose_44 : decode cX8_lose 44 = .ok (.getfield 10, 3) := by decide +kernel
theorem dX8_lose_47 : decode cX8_lose 47 = .ok (.aload_n 0, 1) := by decide +kernel
theorem dX8_lose_48 : decode cX8_lose 48 = .ok (.getfield 19, 3) := by decide +kernel
theorem dX8_lose_51 : decode cX8_lose 51 = .ok (.invokevirtual 199, 3) := by decide +kernel
theorem dX8_lose_54 : decode cX8_lose 54 = .ok (.iload_n 2, 1) := by decide +kernel
theorem dX8_lose_55 : decode cX8_lose 55 = .ok (.lookupswitch 42 #[(0, 25), (1, 34)], 25) := by decide +kernel
theorem dX8_lose_80 : decode cX8_lose 80 = .ok (.aload_n 0, 1) := by decide +kernel
theorem dX8_lose_81 : decode cX8_lose 81 = .ok (.getfield 40, 3) := by decide +kernel
theorem dX8_lose_84 : decode cX8_lose 84 = .ok (.iload_n 1, 1) := by decide +kernel
theorem dX8_lose_85 : decode cX8_lose 85 = .ok (.invokevirtual 233, 3) := by decide +kernel
theorem dX8_lose_88 : decode cX8_lose 88 = .ok (.ireturn, 1) := by decide +kernel
theorem dX8_lose_89 : decode cX8_lose 89 = .ok (.aload_n 0, 1) := by decide +kernel
theorem dX8_lose_90 : decode cX8_lose 90 = .ok (.getfield 40, 3) := by decide +kernel
theorem dX8_lose_93 : decode cX8_lose 93 = .ok (.invokevirtual 236, 3) := by decide +kernel
theorem dX8_lose_96 : decode cX8_lose 96 = .ok (.ireturn, 1) := by decide +kernel
theorem dX8_lose_97 : decode cX8_lose 97 = .ok (.aload_n 0, 1) := by decide +kernel
theorem dX8_lose_98 : decode cX8_lose 98 = .ok (.getfield 40, 3) := by decide +kernel
theorem dX8_lose_101 : decode cX8_lose 101 = .ok (.iload_n 1, 1) := by decide +kernel
theorem dX8_lose_102 : decode cX8_lose 102 = .ok (.invokevirtual 239, 3) := by decide +kernel
theorem dX8_lose_105 : decode cX8_lose 105 = .ok (.ireturn, 1) := by decide +kernel
theorem dX8_odds_0 : decode cX8_odds 0 = .ok (.aload_n 0, 1) := by decide +kernel
theorem dX8_odds_1 : decode cX8_odds 1 = .ok (.iload_n 1, 1) := by decide +kernel
theorem dX8_odds_2 : decode cX8_odds 2 = .ok (.invokevirtual 130, 3) := by decide +kernel
theorem dX8_odds_5 : decode cX8_odds 5 = .ok (.ifCond .eq 18, 3) := by decide +kernel
theorem dX8_odds_8 : decode cX8_odds 8 = .ok (.aload_n 0, 1) := by decide +kernel
theorem dX8_odds_9 : decode cX8_odds 9 = .ok (.iload_n 2, 1) := by decide +kernel
theorem dX8_odds_10 : decode cX8_odds 10 = .ok (.invokevirtual 130, 3) := by decide +kernel
theorem dX8_odds_13 : decode cX8_odds 13 = .ok (.ifCond .eq 10, 3) := by decide +kernel
theorem dX8_odds_16 : decode cX8_odds 16 = .ok (.iload_n 3, 1) := by decide +kernel
theorem dX8_odds_17 : decode cX8_odds 17 = .ok (.invokestatic 196, 3) := by decide +kernel
theorem dX8_odds_20 : decode cX8_odds 20 = .ok (.ifCond .ne 7, 3) := by decide +kernel
theorem dX8_odds_23 : decode cX8_odds 23 = .ok (.ldc2_w 215, 3) := by decide +kernel
theorem dX8_odds_26 : decode cX8_odds 26 = .ok (.lreturn, 1) := by decide +kernel
theorem dX8_odds_27 : decode cX8_odds 27 = .ok (.aload_n 0, 1) := by decide +kernel
theorem dX8_odds_28 : decode cX8_odds 28 = .ok (.getfield 19, 3) := by decide +kernel
theorem dX8_odds_31 : decode cX8_odds 31 = .ok (.invokevirtual 170, 3) := by decide +kernel
theorem dX8_odds_34 : decode cX8_odds 34 = .ok (.bipush 7, 2) := by decide +kernel
theorem dX8_odds_36 : decode cX8_odds 36 = .ok (.if_icmp .le 7, 3) := by decide +kernel
theorem dX8_odds_39 : decode cX8_odds 39 = .ok (.ldc2_w 217, 3) := by decide +kernel
theorem dX8_odds_42 : decode cX8_odds 42 = .ok (.lreturn, 1) := by decide +kernel
theorem dX8_odds_43 : decode cX8_odds 43 = .ok (.aload_n 0, 1) := by decide +kernel
theorem dX8_odds_44 : decode cX8_odds 44 = .ok (.getfield 40, 3) := by decide +kernel
theorem dX8_odds_47 : decode cX8_odds 47 = .ok (.aload_n 0, 1) := by decide +kernel
theorem dX8_odds_48 : decode cX8_odds 48 = .ok (.getfield 10, 3) := by decide +kernel
theorem dX8_odds_51 : decode cX8_odds 51 = .ok (.aload_n 0, 1) := by decide +kernel
theorem dX8_odds_52 : decode cX8_odds 52 = .ok (.getfield 19, 3) := by decide +kernel
theorem dX8_odds_55 : decode cX8_odds 55 = .ok (.iload_n 1, 1) := by decide +kernel
theorem dX8_odds_56 : decode cX8_odds 56 = .ok (.iload_n 2, 1) := by decide +kernel
theorem dX8_odds_57 : decode cX8_odds 57 = .ok (.invokevirtual 242, 3) := by decide +kernel
theorem dX8_odds_60 : decode cX8_odds 60 = .ok (.aload_n 0, 1) := by decide +kernel
theorem dX8_odds_61 : decode cX8_odds 61 = .ok (.getfield 40, 3) := by decide +kernel
theorem dX8_odds_64 : decode cX8_odds 64 = .ok (.iload_n 1, 1) := by decide +kernel
theorem dX8_odds_65 : decode cX8_odds 65 = .ok (.invokevirtual 203, 3) := by decide +kernel
theorem dX8_odds_68 : decode cX8_odds 68 = .ok (.aload_n 0, 1) := by decide +kernel
theorem dX8_odds_69 : decode cX8_odds 69 = .ok (.getfield 40, 3) := by decide +kernel
theorem dX8_odds_72 : decode cX8_odds 72 = .ok (.invokevirtual 246, 3) := by decide +kernel
theorem dX8_odds_75 : decode cX8_odds 75 = .ok (.iload_n 3, 1) := by decide +kernel
theorem dX8_odds_76 : decode cX8_odds 76 = .ok (.invokestatic 211, 3) := by decide +kernel
theorem dX8_odds_79 : decode cX8_odds 79 = .ok (.lreturn, 1) := by decide +kernel
theorem dX8_play_0 : decode cX8_play 0 = .ok (.iload_n 1, 1) := by decide +kernel
theorem dX8_play_1 : decode cX8_play 1 = .ok (.ifCond .lt 8, 3) := by decide +kernel
theorem dX8_play_4 : decode cX8_play 4 = .ok (.iload_n 1, 1) := by decide +kernel
theorem dX8_play_5 : decode cX8_play 5 = .ok (.iconst 2, 1) := by decide +kernel
theorem dX8_play_6 : decode cX8_play 6 = .ok (.if_icmp .le 5, 3) := by decide +kernel
theorem dX8_play_9 : decode cX8_play 9 = .ok (.iconst (-1), 1) := by decide +kernel
theorem dX8_play_10 : decode cX8_play 10 = .ok (.ireturn, 1) := by decide +kernel
theorem dX8_play_11 : decode cX8_play 11 = .ok (.aload_n 0, 1) := by decide +kernel
theorem dX8_play_12 : decode cX8_play 12 = .ok (.getfield 19, 3) := by decide +kernel
theorem dX8_play_15 : decode cX8_play 15 = .ok (.invokevirtual 170, 3) := by decide +kernel
theorem dX8_play_18 : decode cX8_play 18 = .ok (.istore_n 2, 1) := by decide +kernel
theorem dX8_play_19 : decode cX8_play 19 = .ok (.iload_n 2, 1) := by decide +kernel
theorem dX8_play_20 : decode cX8_play 20 = .ok (.iconst 5, 1) := by decide +kernel
theorem dX8_play_21 : decode cX8_play 21 = .ok (.if_icmp .gt 7, 3) := by decide +kernel
theorem dX8_play_24 : decode cX8_play 24 = .ok (.iload_n 2, 1) := by decide +kernel
theorem dX8_play_25 : decode cX8_play 25 = .ok (.ifCond .ne 6, 3) := by decide +kernel
theorem dX8_play_28 : decode cX8_play 28 = .ok (.bipush (-2), 2) := by decide +kernel
theorem dX8_play_30 : decode cX8_play 30 = .ok (.ireturn, 1) := by decide +kernel
theorem dX8_play_31 : decode cX8_play 31 = .ok (.aload_n 0, 1) := by decide +kernel
theorem dX8_play_32 : decode cX8_play 32 = .ok (.getfield 40, 3) := by decide +kernel
theorem dX8_play_35 : decode cX8_play 35 = .ok (.aload_n 0, 1) := by decide +kernel
theorem dX8_play_36 : decode cX8_play 36 = .ok (.getfield 10, 3) := by decide +kernel
theorem dX8_play_39 : decode cX8_play 39 = .ok (.aload_n 0, 1) := by decide +kernel
theorem dX8_play_40 : decode cX8_play 40 = .ok (.getfield 19, 3) := by decide +kernel
theorem dX8_play_43 : decode cX8_play 43 = .ok (.invokevirtual 199, 3) := by decide +kernel
theorem dX8_play_46 : decode cX8_play 46 = .ok (.aload_n 0, 1) := by decide +kernel
theorem dX8_play_47 : decode cX8_play 47 = .ok (.getfield 40, 3) := by decide +kernel
theorem dX8_play_50 : decode cX8_play 50 = .ok (.invokevirtual 249, 3) := by decide +kernel
theorem dX8_play_53 : decode cX8_play 53 = .ok (.iload_n 1, 1) := by decide +kernel
theorem dX8_play_54 : decode cX8_play 54 = .ok (.lookupswitch 50 #[(0, 26), (1, 34)], 26) := by decide +kernel
theorem dX8_play_80 : decode cX8_play 80 = .ok (.aload_n 0, 1) := by decide +kernel
theorem dX8_play_81 : decode cX8_play 81 = .ok (.getfield 40, 3) := by decide +kernel
theorem dX8_play_84 : decode cX8_play 84 = .ok (.getfield 252, 3) := by decide +kernel
theorem dX8_play_87 : decode cX8_play 87 = .ok (.ireturn, 1) := by decide +kernel
theorem dX8_play_88 : decode cX8_play 88 = .ok (.aload_n 0, 1) := by decide +kernel
theorem dX8_play_89 : decode cX8_play 89 = .ok (.getfield 40, 3) := by decide +kernel
theorem dX8_play_92 : decode cX8_play 92 = .ok (.getfield 255, 3) := by decide +kernel
theorem dX8_play_95 : decode cX8_play 95 = .ok (.ifCond .eq 7, 3) := by decide +kernel
theorem dX8_play_98 : decode cX8_play 98 = .ok (.iconst 1, 1) := by decide +kernel
theorem dX8_play_99 : decode cX8_play 99 = .ok (.goto 4, 3) := by decide +kernel
theorem dX8_play_102 : decode cX8_play 102 = .ok (.iconst 0, 1) := by decide +kernel
theorem dX8_play_103 : decode cX8_play 103 = .ok (.ireturn, 1) := by decide +kernel
theorem dX8_play_104 : decode cX8_play 104 = .ok (.aload_n 0, 1) := by decide +kernel
theorem dX8_play_105 : decode cX8_play 105 = .ok (.getfield 40, 3) := by decide +kernel
theorem dX8_play_108 : decode cX8_play 108 = .ok (.getfield 259, 3) := by decide +kernel
theorem dX8_play_111 : decode cX8_play 111 = .ok (.iconst 0, 1) := by decide +kernel
theorem dX8_play_112 : decode cX8_play 112 = .ok (.iaload, 1) := by decide +kernel
theorem dX8_play_113 : decode cX8_play 113 = .ok (.ireturn, 1) := by decide +kernel
theorem dX8_played_0 : decode cX8_played 0 = .ok (.aload_n 0, 1) := by decide +kernel
theorem dX8_played_1 : decode cX8_played 1 = .ok (.iload_n 1, 1) := by decide +kernel
theorem dX8_played_2 : decode cX8_played 2 = .ok (.invokevirtual 130, 3) := by decide +kernel
theorem dX8_played_5 : decode cX8_played 5 = .ok (.ifCond .eq 10, 3) := by decide +kernel
theorem dX8_played_8 : decode cX8_played 8 = .ok (.iload_n 2, 1) := by decide +kernel
theorem dX8_played_9 : decode cX8_played 9 = .ok (.invokestatic 196, 3) := by decide +kernel
theorem dX8_played_12 : decode cX8_played 12 = .ok (.ifCond .ne 7, 3) := by decide +kernel
theorem dX8_played_15 : decode cX8_played 15 = .ok (.ldc2_w 215, 3) := by decide +kernel
theorem dX8_played_18 : decode cX8_played 18 = .ok (.lreturn, 1) := by decide +kernel
theorem dX8_played_19 : decode cX8_played 19 = .ok (.aload_n 0, 1) := by decide +kernel
theorem dX8_played_20 : decode cX8_played 20 = .ok (.getfield 19, 3) := by decide +kernel
theorem dX8_played_23 : decode cX8_played 23 = .ok (.invokevirtual 170, 3) := by decide +kernel
theorem dX8_played_26 : decode cX8_played 26 = .ok (.iconst 5, 1) := by decide +kernel
theorem dX8_played_27 : decode cX8_played 27 = .ok (.if_icmp .le 7, 3) := by decide +kernel
theorem dX8_played_30 : decode cX8_played 30 = .ok (.ldc2_w 217, 3) := by decide +kernel
theorem dX8_played_33 : decode cX8_played 33 = .ok (.lreturn, 1) := by decide +kernel
theorem dX8_played_34 : decode cX8_played 34 = .ok (.aload_n 0, 1) := by decide +kernel
theorem dX8_played_35 : decode cX8_played 35 = .ok (.getfield 40, 3) := by decide +kernel
theorem dX8_played_38 : decode cX8_played 38 = .ok (.aload_n 0, 1) := by decide +kernel
theorem dX8_played_39 : decode cX8_played 39 = .ok (.getfield 10, 3) := by decide +kernel
theorem dX8_played_42 : decode cX8_played 42 = .ok (.aload_n 0, 1) := by decide +kernel
theorem dX8_played_43 : decode cX8_played 43 = .ok (.getfield 19, 3) := by decide +kernel
theorem dX8_played_46 : decode cX8_played 46 = .ok (.invokevirtual 199, 3) := by decide +kernel
theorem dX8_played_49 : decode cX8_played 49 = .ok (.aload_n 0, 1) := by decide +kernel
theorem dX8_played_50 : decode cX8_played 50 = .ok (.getfield 40, 3) := by decide +kernel
theorem dX8_played_53 : decode cX8_played 53 = .ok (.invokevirtual 249, 3) := by decide +kernel
theorem dX8_played_56 : decode cX8_played 56 = .ok (.aload_n 0, 1) := by decide +kernel
theorem dX8_played_57 : decode cX8_played 57 = .ok (.getfield 40, 3) := by decide +kernel
theorem dX8_played_60 : decode cX8_played 60 = .ok (.getfield 262, 3) := by decide +kernel
theorem dX8_played_63 : decode cX8_played 63 = .ok (.iload_n 1, 1) := by decide +kernel
theorem dX8_played_64 : decode cX8_played 64 = .ok (.laload, 1) := by decide +kernel
theorem dX8_played_65 : decode cX8_played 65 = .ok (.aload_n 0, 1) := by decide +kernel
theorem dX8_played_66 : decode cX8_played 66 = .ok (.getfield 40, 3) := by decide +kernel
theorem dX8_played_69 : decode cX8_played 69 = .ok (.invokevirtual 207, 3) := by decide +kernel
theorem dX8_played_72 : decode cX8_played 72 = .ok (.iload_n 2, 1) := by decide +kernel
theorem dX8_played_73 : decode cX8_played 73 = .ok (.invokestatic 211, 3) := by decide +kernel
theorem dX8_played_76 : decode cX8_played 76 = .ok (.lreturn, 1) := by decide +kernel
theorem dX8_pays_0 : decode cX8_pays 0 = .ok (.iload_n 1, 1) := by decide +kernel
theorem dX8_pays_1 : decode cX8_pays 1 = .ok (.ifCond .lt 8, 3) := by decide +kernel
theorem dX8_pays_4 : decode cX8_pays 4 = .ok (.iload_n 1, 1) := by decide +kernel
theorem dX8_pays_5 : decode cX8_pays 5 = .ok (.iconst 2, 1) := by decide +kernel
theorem dX8_pays_6 : decode cX8_pays 6 = .ok (.if_icmp .le 5, 3) := by decide +kernel
theorem dX8_pays_9 : decode cX8_pays 9 = .ok (.iconst (-1), 1) := by decide +kernel
theorem dX8_pays_10 : decode cX8_pays 10 = .ok (.ireturn, 1) := by decide +kernel
theorem dX8_pays_11 : decode cX8_pays 11 = .ok (.aload_n 0, 1) := by decide +kernel
theorem dX8_pays_12 : decode cX8_pays 12 = .ok (.getfield 19, 3) := by decide +kernel
theorem dX8_pays_15 : decode cX8_pays 15 = .ok (.invokevirtual 170, 3) := by decide +kernel
theorem dX8_pays_18 : decode cX8_pays 18 = .ok (.bipush 7, 2) := by decide +kernel
theorem dX8_pays_20 : decode cX8_pays 20 = .ok (.if_icmp .le 6, 3) := by decide +kernel
theorem dX8_pays_23 : decode cX8_pays 23 = .ok (.bipush (-2), 2) := by decide +kernel
theorem dX8_pays_25 : decode cX8_pays 25 = .ok (.ireturn, 1) := by decide +kernel
theorem dX8_pays_26 : decode cX8_pays 26 = .ok (.aload_n 0, 1) := by decide +kernel
theorem dX8_pays_27 : decode cX8_pays 27 = .ok (.getfield 40, 3) := by decide +kernel
theorem dX8_pays_30 : decode cX8_pays 30 = .ok (.aload_n 0, 1) := by decide +kernel
theorem dX8_pays_31 : decode cX8_pays 31 = .ok (.getfield 10, 3) := by decide +kernel
theorem dX8_pays_34 : decode cX8_pays 34 = .ok (.aload_n 0, 1) := by decide +kernel
theorem dX8_pays_35 : decode cX8_pays 35 = .ok (.getfield 19, 3) := by decide +kernel
theorem dX8_pays_38 : decode cX8_pays 38 = .ok (.invokevirtual 199, 3) := by decide +kernel
theorem dX8_pays_41 : decode cX8_pays 41 = .ok (.aload_n 0, 1) := by decide +kernel
theorem dX8_pays_42 : decode cX8_pays 42 = .ok (.getfield 40, 3) := by decide +kernel
theorem dX8_pays_45 : decode cX8_pays 45 = .ok (.invokevirtual 266, 3) := by decide +kernel
theorem dX8_pays_48 : decode cX8_pays 48 = .ok (.iload_n 1, 1) := by decide +kernel
theorem dX8_pays_49 : decode cX8_pays 49 = .ok (.lookupswitch 43 #[(0, 27), (1, 35)], 27) := by decide +kernel
theorem dX8_pays_76 : decode cX8_pays 76 = .ok (.aload_n 0, 1) := by decide +kernel
theorem dX8_pays_77 : decode cX8_pays 77 = .ok (.getfield 40, 3) := by decide +kernel
theorem dX8_pays_80 : decode cX8_pays 80 = .ok (.getfield 269, 3) := by decide +kernel
theorem dX8_pays_83 : decode cX8_pays 83 = .ok (.ireturn, 1) := by decide +kernel
theorem dX8_pays_84 : decode cX8_pays 84 = .ok (.aload_n 0, 1) := by decide +kernel
theorem dX8_pays_85 : decode cX8_pays 85 = .ok (.getfield 40, 3) := by decide +kernel
theorem dX8_pays_88 : decode cX8_pays 88 = .ok (.getfield 272, 3) := by decide +kernel
theorem dX8_pays_91 : decode cX8_pays 91 = .ok (.ireturn, 1) := by decide +kernel
theorem dX8_pays_92 : decode cX8_pays 92 = .ok (.iconst 1, 1) := by decide +kernel
theorem dX8_pays_93 : decode cX8_pays 93 = .ok (.aload_n 0, 1) := by decide +kernel
theorem dX8_pays_94 : decode cX8_pays 94 = .ok (.getfield 40, 3) := by decide +kernel
theorem dX8_pays_97 : decode cX8_pays 97 = .ok (.getfield 275, 3) := by decide +kernel
theorem dX8_pays_100 : decode cX8_pays 100 = .ok (.ishl, 1) := by decide +kernel
theorem dX8_pays_101 : decode cX8_pays 101 = .ok (.iconst 1, 1) := by decide +kernel
theorem dX8_pays_102 : decode cX8_pays 102 = .ok (.isub, 1) := by decide +kernel
theorem dX8_pays_103 : decode cX8_pays 103 = .ok (.ireturn, 1) := by decide +kernel
theorem dX8_years_0 : decode cX8_years 0 = .ok (.iload_n 3, 1) := by decide +kernel
theorem dX8_years_1 : decode cX8_years 1 = .ok (.bipush 10, 2) := by decide +kernel
theorem dX8_years_3 : decode cX8_years 3 = .ok (.if_icmp .lt 18, 3) := by decide +kernel
theorem dX8_years_6 : decode cX8_years 6 = .ok (.aload_n 0, 1) := by decide +kernel
theorem dX8_years_7 : decode cX8_years 7 = .ok (.iload_n 3, 1) := by decide +kernel
theorem dX8_years_8 : decode cX8_years 8 = .ok (.bipush 10, 2) := by decide +kernel
theorem dX8_years_10 : decode cX8_years 10 = .ok (.isub, 1) := by decide +kernel
theorem dX8_years_11 : decode cX8_years 11 = .ok (.invokevirtual 130, 3) := by decide +kernel
theorem dX8_years_14 : decode cX8_years 14 = .ok (.ifCond .eq 7, 3) := by decide +kernel
theorem dX8_years_17 : decode cX8_years 17 = .ok (.iconst 1, 1) := by decide +kernel
theorem dX8_years_18 : decode cX8_years 18 = .ok (.goto 4, 3) := by decide +kernel
theorem dX8_years_21 : decode cX8_years 21 = .ok (.iconst 0, 1) := by decide +kernel
theorem dX8_years_22 : decode cX8_years 22 = .ok (.istore 4, 2) := by decide +kernel
theorem dX8_years_24 : decode cX8_years 24 = .ok (.iload_n 1, 1) := by decide +kernel
theorem dX8_years_25 : decode cX8_years 25 = .ok (.iconst 1, 1) := by decide +kernel
theorem dX8_years_26 : decode cX8_years 26 = .ok (.if_icmp .lt 23, 3) := by decide +kernel
theorem dX8_years_29 : decode cX8_years 29 = .ok (.iload_n 1, 1) := by decide +kernel
theorem dX8_years_30 : decode cX8_years 30 = .ok (.bipush 40, 2) := by decide +kernel
theorem dX8_years_32 : decode cX8_years 32 = .ok (.if_icmp .gt 17, 3) := by decide +kernel
theorem dX8_years_35 : decode cX8_years 35 = .ok (.iload 4, 2) := by decide +kernel
theorem dX8_years_37 : decode cX8_years 37 = .ok (.ifCond .ne 14, 3) := by decide +kernel
theorem dX8_years_40 : decode cX8_years 40 = .ok (.iload_n 3, 1) := by decide +kernel
theorem dX8_years_41 : decode cX8_years 41 = .ok (.ifCond .lt 8, 3) := by decide +kernel
theorem dX8_years_44 : decode cX8_years 44 = .ok (.iload_n 3, 1) := by decide +kernel
theorem dX8_years_45 : decode cX8_years 45 = .ok (.iconst 4, 1) := by decide +kernel
theorem dX8_years_46 : decode cX8_years 46 = .ok (.if_icmp .le 5, 3) := by decide +kernel
theorem dX8_years_49 : decode cX8_years 49 = .ok (.iconst (-1), 1) := by decide +kernel
theorem dX8_years_50 : decode cX8_years 50 = .ok (.ireturn, 1) := by decide +kernel
theorem dX8_years_51 : decode cX8_years 51 = .ok (.aload_n 0, 1) := by decide +kernel
theorem dX8_years_52 : decode cX8_years 52 = .ok (.getfield 47, 3) := by decide +kernel
theorem dX8_years_55 : decode cX8_years 55 = .ok (.aload_n 0, 1) := by decide +kernel
theorem dX8_years_56 : decode cX8_years 56 = .ok (.getfield 10, 3) := by decide +kernel
theorem dX8_years_59 : decode cX8_years 59 = .ok (.iload_n 1, 1) := by decide +kernel
theorem dX8_years_60 : decode cX8_years 60 = .ok (.iload_n 2, 1) := by decide +kernel
theorem dX8_years_61 : decode cX8_years 61 = .ok (.invokevirtual 278, 3) := by decide +kernel
theorem dX8_years_64 : decode cX8_years 64 = .ok (.iload_n 3, 1) := by decide +kernel
theorem dX8_years_65 : decode cX8_years 65 = .ok (.tableswitch 78 0 4 #[35, 43, 54, 62, 70], 35) := by decide +kernel
theorem dX8_years_100 : decode cX8_years 100 = .ok (.aload_n 0, 1) := by decide +kernel
theorem dX8_years_101 : decode cX8_years 101 = .ok (.getfield 47, 3) := by decide +kernel
theorem dX8_years_104 : decode cX8_years 104 = .ok (.getfield 282, 3) := by decide +kernel
theorem dX8_years_107 : decode cX8_years 107 = .ok (.ireturn, 1) := by decide +kernel
theorem dX8_years_108 : decode cX8_years 108 = .ok (.aload_n 0, 1) := by decide +kernel
theorem dX8_years_109 : decode cX8_years 109 = .ok (.getfield 47, 3) := by decide +kernel
theorem dX8_years_112 : decode cX8_years 112 = .ok (.getfield 285, 3) := by decide +kernel
theorem dX8_years_115 : decode cX8_years 115 = .ok (.invokestatic 288, 3) := by decide +kernel
theorem dX8_years_118 : decode cX8_years 118 = .ok (.ireturn, 1) := by decide +kernel
theorem dX8_years_119 : decode cX8_years 119 = .ok (.aload_n 0, 1) := by decide +kernel
theorem dX8_years_120 : decode cX8_years 120 = .ok (.getfield 47, 3) := by decide +kernel
theorem dX8_years_123 : decode cX8_years 123 = .ok (.getfield 293, 3) := by decide +kernel
theorem dX8_years_126 : decode cX8_years 126 = .ok (.ireturn, 1) := by decide +kernel
theorem dX8_years_127 : decode cX8_years 127 = .ok (.aload_n 0, 1) := by decide +kernel
theorem dX8_years_128 : decode cX8_years 128 = .ok (.getfield 47, 3) := by decide +kernel
theorem dX8_years_131 : decode cX8_years 131 = .ok (.getfield 296, 3) := by decide +kernel
theorem dX8_years_134 : decode cX8_years 134 = .ok (.ireturn, 1) := by decide +kernel
theorem dX8_years_135 : decode cX8_years 135 = .ok (.aload_n 0, 1) := by decide +kernel
theorem dX8_years_136 : decode cX8_years 136 = .ok (.getfield 47, 3) := by decide +kernel
theorem dX8_years_139 : decode cX8_years 139 = .ok (.getfield 299, 3) := by decide +kernel
theorem dX8_years_142 : decode cX8_years 142 = .ok (.ireturn, 1) := by decide +kernel
theorem dX8_years_143 : decode cX8_years 143 = .ok (.aload_n 0, 1) := by decide +kernel
theorem dX8_years_144 : decode cX8_years 144 = .ok (.getfield 47, 3) := by decide +kernel
theorem dX8_years_147 : decode cX8_years 147 = .ok (.getfield 302, 3) := by decide +kernel
theorem dX8_years_150 : decode cX8_years 150 = .ok (.iload_n 3, 1) := by decide +kernel
theorem dX8_years_151 : decode cX8_years 151 = .ok (.bipush 10, 2) := by decide +kernel
theorem dX8_years_153 : decode cX8_years 153 = .ok (.isub, 1) := by decide +kernel
theorem dX8_years_154 : decode cX8_years 154 = .ok (.iaload, 1) := by decide +kernel
theorem dX8_years_155 : decode cX8_years 155 = .ok (.ireturn, 1) := by decide +kernel
theorem dX8_thumbs_0 : decode cX8_thumbs 0 = .ok (.iload_n 1, 1) := by decide +kernel
theorem dX8_thumbs_1 : decode cX8_thumbs 1 = .ok (.iconst 1, 1) := by decide +kernel
theorem dX8_thumbs_2 : decode cX8_thumbs 2 = .ok (.if_icmp .lt 25, 3) := by decide +kernel
theorem dX8_thumbs_5 : decode cX8_thumbs 5 = .ok (.iload_n 1, 1) := by decide +kernel
theorem dX8_thumbs_6 : decode cX8_thumbs 6 = .ok (.bipush 20, 2) := by decide +kernel
theorem dX8_thumbs_8 : decode cX8_thumbs 8 = .ok (.if_icmp .gt 19, 3) := by decide +kernel
theorem dX8_thumbs_11 : decode cX8_thumbs 11 = .ok (.iload_n 2, 1) := by decide +kernel
theorem dX8_thumbs_12 : decode cX8_thumbs 12 = .ok (.ifCond .lt 15, 3) := by decide +kernel
theorem dX8_thumbs_15 : decode cX8_thumbs 15 = .ok (.iload_n 2, 1) := by decide +kernel
theorem dX8_thumbs_16 : decode cX8_thumbs 16 = .ok (.iload_n 1, 1) := by decide +kernel
theorem dX8_thumbs_17 : decode cX8_thumbs 17 = .ok (.if_icmp .gt 10, 3) := by decide +kernel
theorem dX8_thumbs_20 : decode cX8_thumbs 20 = .ok (.iload_n 3, 1) := by decide +kernel
theorem dX8_thumbs_21 : decode cX8_thumbs 21 = .ok (.invokestatic 196, 3) := by decide +kernel
theorem dX8_thumbs_24 : decode cX8_thumbs 24 = .ok (.ifCond .ne 7, 3) := by decide +kernel
theorem dX8_thumbs_27 : decode cX8_thumbs 27 = .ok (.ldc2_w 215, 3) := by decide +kernel
theorem dX8_thumbs_30 : decode cX8_thumbs 30 = .ok (.lreturn, 1) := by decide +kernel
theorem dX8_thumbs_31 : decode cX8_thumbs 31 = .ok (.iload_n 1, 1) := by decide +kernel
theorem dX8_thumbs_32 : decode cX8_thumbs 32 = .ok (.iload_n 2, 1) := by decide +kernel
theorem dX8_thumbs_33 : decode cX8_thumbs 33 = .ok (.invokestatic 303, 3) := by decide +kernel
theorem dX8_thumbs_36 : decode cX8_thumbs 36 = .ok (.bipush 6, 2) := by decide +kernel
theorem dX8_thumbs_38 : decode cX8_thumbs 38 = .ok (.iload_n 1, 1) := by decide +kernel
theorem dX8_thumbs_39 : decode cX8_thumbs 39 = .ok (.invokestatic 307, 3) := by decide +kernel
theorem dX8_thumbs_42 : decode cX8_thumbs 42 = .ok (.iload_n 3, 1) := by decide +kernel
theorem dX8_thumbs_43 : decode cX8_thumbs 43 = .ok (.invokestatic 211, 3) := by decide +kernel
theorem dX8_thumbs_46 : decode cX8_thumbs 46 = .ok (.lreturn, 1) := by decide +kernel
theorem dX8_fine_0 : decode cX8_fine 0 = .ok (.iload_n 1, 1) := by decide +kernel
theorem dX8_fine_1 : decode cX8_fine 1 = .ok (.iconst 1, 1) := by decide +kernel
theorem dX8_fine_2 : decode cX8_fine 2 = .ok (.if_icmp .lt 21, 3) := by decide +kernel
theorem dX8_fine_5 : decode cX8_fine 5 = .ok (.iload_n 1, 1) := by decide +kernel
theorem dX8_fine_6 : decode cX8_fine 6 = .ok (.bipush 20, 2) := by decide +kernel
theorem dX8_fine_8 : decode cX8_fine 8 = .ok (.if_icmp .gt 15, 3) := by decide +kernel
theorem dX8_fine_11 : decode cX8_fine 11 = .ok (.iload_n 2, 1) := by decide +kernel
theorem dX8_fine_12 : decode cX8_fine 12 = .ok (.iconst 2, 1) := by decide +kernel
theorem dX8_fine_13 : decode cX8_fine 13 = .ok (.if_icmp .lt 10, 3) := by decide +kernel
theorem dX8_fine_16 : decode cX8_fine 16 = .ok (.iload_n 2, 1) := by decide +kernel
theorem dX8_fine_17 : decode cX8_fine 17 = .ok (.sipush 1000, 3) := by decide +kernel
theorem dX8_fine_20 : decode cX8_fine 20 = .ok (.if_icmp .le 5, 3) := by decide +kernel
theorem dX8_fine_23 : decode cX8_fine 23 = .ok (.iconst (-1), 1) := by decide +kernel
theorem dX8_fine_24 : decode cX8_fine 24 = .ok (.ireturn, 1) := by decide +kernel
theorem dX8_fine_25 : decode cX8_fine 25 = .ok (.bipush 6, 2) := by decide +kernel
theorem dX8_fine_27 : decode cX8_fine 27 = .ok (.iload_n 1, 1) := by decide +kernel
theorem dX8_fine_28 : decode cX8_fine 28 = .ok (.invokestatic 307, 3) := by decide +kernel
theorem dX8_fine_31 : decode cX8_fine 31 = .ok (.lstore_n 3, 1) := by decide +kernel
theorem dX8_fine_32 : decode cX8_fine 32 = .ok (.iconst 0, 1) := by decide +kernel
theorem dX8_fine_33 : decode cX8_fine 33 = .ok (.istore 5, 2) := by decide +kernel
theorem dX8_fine_35 : decode cX8_fine 35 = .ok (.iload 5, 2) := by decide +kernel
theorem dX8_fine_37 : decode cX8_fine 37 = .ok (.iload_n 1, 1) := by decide +kernel
theorem dX8_fine_38 : decode cX8_fine 38 = .ok (.if_icmp .gt 26, 3) := by decide +kernel
theorem dX8_fine_41 : decode cX8_fine 41 = .ok (.iload_n 1, 1) := by decide +kernel
theorem dX8_fine_42 : decode cX8_fine 42 = .ok (.iload 5, 2) := by decide +kernel
theorem dX8_fine_44 : decode cX8_fine 44 = .ok (.invokestatic 303, 3) := by decide +kernel
theorem dX8_fine_47 : decode cX8_fine 47 = .ok (.iload_n 2, 1) := by decide +kernel
theorem dX8_fine_48 : decode cX8_fine 48 = .ok (.i2l, 1) := by decide +kernel
theorem dX8_fine_49 : decode cX8_fine 49 = .ok (.lmul, 1) := by decide +kernel
theorem dX8_fine_50 : decode cX8_fine 50 = .ok (.lload_n 3, 1) := by decide +kernel
theorem dX8_fine_51 : decode cX8_fine 51 = .ok (.lcmp, 1) := by decide +kernel
theorem dX8_fine_52 : decode cX8_fine 52 = .ok (.ifCond .gt 6, 3) := by decide +kernel
theorem dX8_fine_55 : decode cX8_fine 55 = .ok (.iload 5, 2) := by decide +kernel
theorem dX8_fine_57 : decode cX8_fine 57 = .ok (.ireturn, 1) := by decide +kernel
theorem dX8_fine_58 : decode cX8_fine 58 = .ok (.iinc 5 1, 3) := by decide +kernel
theorem dX8_fine_61 : decode cX8_fine 61 = .ok (.goto (-26), 3) := by decide +kernel
theorem dX8_fine_64 : decode cX8_fine 64 = .ok (.bipush (-4), 2) := by decide +kernel
theorem dX8_fine_66 : decode cX8_fine 66 = .ok (.ireturn, 1) := by decide +kernel
theorem dX8_sheet_0 : decode cX8_sheet 0 = .ok (.iload_n 1, 1) := by decide +kernel
theorem dX8_sheet_1 : decode cX8_sheet 1 = .ok (.invokestatic 310, 3) := by decide +kernel
theorem dX8_sheet_4 : decode cX8_sheet 4 = .ok (.ifCond .eq 16, 3) := by decide +kernel
theorem dX8_sheet_7 : decode cX8_sheet 7 = .ok (.iload_n 2, 1) := by decide +kernel
theorem dX8_sheet_8 : decode cX8_sheet 8 = .ok (.invokestatic 313, 3) := by decide +kernel
theorem dX8_sheet_11 : decode cX8_sheet 11 = .ok (.ifCond .eq 9, 3) := by decide +kernel
theorem dX8_sheet_14 : decode cX8_sheet 14 = .ok (.iload_n 3, 1) := by decide +kernel
theorem dX8_sheet_15 : decode cX8_sheet 15 = .ok (.bipush 40, 2) := by decide +kernel
theorem dX8_sheet_17 : decode cX8_sheet 17 = .ok (.if_icmp .le 5, 3) := by decide +kernel
theorem dX8_sheet_20 : decode cX8_sheet 20 = .ok (.iconst (-1), 1) := by decide +kernel
theorem dX8_sheet_21 : decode cX8_sheet 21 = .ok (.ireturn, 1) := by decide +kernel
theorem dX8_sheet_22 : decode cX8_sheet 22 = .ok (.iload_n 3, 1) := by decide +kernel
theorem dX8_sheet_23 : decode cX8_sheet 23 = .ok (.ifCond .ge 6, 3) := by decide +kernel
theorem dX8_sheet_26 : decode cX8_sheet 26 = .ok (.bipush (-14), 2) := by decide +kernel
theorem dX8_sheet_28 : decode cX8_sheet 28 = .ok (.ireturn, 1) := by decide +kernel
theorem dX8_sheet_29 : decode cX8_sheet 29 = .ok (.aload_n 0, 1) := by decide +kernel
theorem dX8_sheet_30 : decode cX8_sheet 30 = .ok (.getfield 53, 3) := by decide +kernel
theorem dX8_sheet_33 : decode cX8_sheet 33 = .ok (.iload_n 1, 1) := by decide +kernel
theorem dX8_sheet_34 : decode cX8_sheet 34 = .ok (.aaload, 1) := by decide +kernel
theorem dX8_sheet_35 : decode cX8_sheet 35 = .ok (.iload_n 2, 1) := by decide +kernel
theorem dX8_sheet_36 : decode cX8_sheet 36 = .ok (.iload_n 3, 1) := by decide +kernel
theorem dX8_sheet_37 : decode cX8_sheet 37 = .ok (.invokevirtual 316, 3) := by decide +kernel
theorem dX8_sheet_40 : decode cX8_sheet 40 = .ok (.iconst 1, 1) := by decide +kernel
theorem dX8_sheet_41 : decode cX8_sheet 41 = .ok (.ireturn, 1) := by decide +kernel
theorem dX8_lay_0 : decode cX8_lay 0 = .ok (.iload_n 1, 1) := by decide +kernel
theorem dX8_lay_1 : decode cX8_lay 1 = .ok (.invokestatic 310, 3) := by decide +kernel
theorem dX8_lay_4 : decode cX8_lay 4 = .ok (.ifCond .ne 5, 3) := by decide +kernel
theorem dX8_lay_7 : decode cX8_lay 7 = .ok (.iconst (-1), 1) := by decide +kernel
theorem dX8_lay_8 : decode cX8_lay 8 = .ok (.ireturn, 1) := by decide +kernel
theorem dX8_lay_9 : decode cX8_lay 9 = .ok (.aload_n 0, 1) := by decide +kernel
theorem dX8_lay_10 : decode cX8_lay 10 = .ok (.getfield 53, 3) := by decide +kernel
theorem dX8_lay_13 : decode cX8_lay 13 = .ok (.iload_n 1, 1) := by decide +kernel
theorem dX8_lay_14 : decode cX8_lay 14 = .ok (.aaload, 1) := by decide +kernel
theorem dX8_lay_15 : decode cX8_lay 15 = .ok (.astore 4, 2) := by decide +kernel
theorem dX8_lay_17 : decode cX8_lay 17 = .ok (.aload 4, 2) := by decide +kernel
theorem dX8_lay_19 : decode cX8_lay 19 = .ok (.getfield 320, 3) := by decide +kernel
theorem dX8_lay_22 : decode cX8_lay 22 = .ok (.ifCond .ne 6, 3) := by decide +kernel
theorem dX8_lay_25 : decode cX8_lay 25 = .ok (.bipush (-11), 2) := by decide +kernel
theorem dX8_lay_27 : decode cX8_lay 27 = .ok (.ireturn, 1) := by decide +kernel
theorem dX8_lay_28 : decode cX8_lay 28 = .ok (.aload 4, 2) := by decide +kernel
theorem dX8_lay_30 : decode cX8_lay 30 = .ok (.iload_n 2, 1) := by decide +kernel
theorem dX8_lay_31 : decode cX8_lay 31 = .ok (.invokevirtual 323, 3) := by decide +kernel
theorem dX8_lay_34 : decode cX8_lay 34 = .ok (.ifCond .ne 6, 3) := by decide +kernel
theorem dX8_lay_37 : decode cX8_lay 37 = .ok (.bipush (-12), 2) := by decide +kernel
theorem dX8_lay_39 : decode cX8_lay 39 = .ok (.ireturn, 1) := by decide +kernel
theorem dX8_lay_40 : decode cX8_lay 40 = .ok (.aload 4, 2) := by decide +kernel
theorem dX8_lay_42 : decode cX8_lay 42 = .ok (.iload_n 2, 1) := by decide +kernel
theorem dX8_lay_43 : decode cX8_lay 43 = .ok (.iload_n 3, 1) := by decide +kernel
theorem dX8_lay_44 : decode cX8_lay 44 = .ok (.invokevirtual 324, 3) := by decide +kernel
theorem dX8_lay_47 : decode cX8_lay 47 = .ok (.iconst 1, 1) := by decide +kernel
theorem dX8_lay_48 : decode cX8_lay 48 = .ok (.ireturn, 1) := by decide +kernel
theorem dX8_read_0 : decode cX8_read 0 = .ok (.iload_n 1, 1) := by decide +kernel
theorem dX8_read_1 : decode cX8_read 1 = .ok (.invokestatic 310, 3) := by decide +kernel
theorem dX8_read_4 : decode cX8_read 4 = .ok (.ifCond .eq 22, 3) := by decide +kernel
theorem dX8_read_7 : decode cX8_read 7 = .ok (.iload_n 2, 1) := by decide +kernel
theorem dX8_read_8 : decode cX8_read 8 = .ok (.invokestatic 313, 3) := by decide +kernel
theorem dX8_read_11 : decode cX8_read 11 = .ok (.ifCond .eq 15, 3) := by decide +kernel
theorem dX8_read_14 : decode cX8_read 14 = .ok (.iload 5, 2) := by decide +kernel
theorem dX8_read_16 : decode cX8_read 16 = .ok (.ifCond .lt 10, 3) := by decide +kernel
theorem dX8_read_19 : decode cX8_read 19 = .ok (.iload 5, 2) := by decide +kernel
theorem dX8_read_21 : decode cX8_read 21 = .ok (.bipush 30, 2) := by decide +kernel
theorem dX8_read_23 : decode cX8_read 23 = .ok (.if_icmp .le 5, 3) := by decide +kernel
theorem dX8_read_26 : decode cX8_read 26 = .ok (.iconst (-1), 1) := by decide +kernel
theorem dX8_read_27 : decode cX8_read 27 = .ok (.ireturn, 1) := by decide +kernel
theorem dX8_read_28 : decode cX8_read 28 = .ok (.iload 4, 2) := by decide +kernel
theorem dX8_read_30 : decode cX8_read 30 = .ok (.ifCond .lt 30, 3) := by decide +kernel
theorem dX8_read_33 : decode cX8_read 33 = .ok (.iload 4, 2) := by decide +kernel
theorem dX8_read_35 : decode cX8_read 35 = .ok (.aload_n 0, 1) := by decide +kernel
theorem dX8_read_36 : decode cX8_read 36 = .ok (.getfield 19, 3) := by decide +kernel
theorem dX8_read_39 : decode cX8_read 39 = .ok (.getfield 95, 3) := by decide +kernel
theorem dX8_read_42 : decode cX8_read 42 = .ok (.if_icmp .gt 18, 3) := by decide +kernel
theorem dX8_read_45 : decode cX8_read 45 = .ok (.iload 5, 2) := by decide +kernel
theorem dX8_read_47 : decode cX8_read 47 = .ok (.aload_n 0, 1) := by decide +kernel
theorem dX8_read_48 : decode cX8_read 48 = .ok (.getfield 19, 3) := by decide +kernel
theorem dX8_read_51 : decode cX8_read 51 = .ok (.getfield 95, 3) := by decide +kernel
theorem dX8_read_54 : decode cX8_read 54 = .ok (.iload 4, 2) := by decide +kernel
theorem dX8_read_56 : decode cX8_read 56 = .ok (.isub, 1) := by decide +kernel
theorem dX8_read_57 : decode cX8_read 57 = .ok (.if_icmp .le 5, 3) := by decide +kernel
theorem dX8_read_60 : decode cX8_read 60 = .ok (.iconst (-1), 1) := by decide +kernel
theorem dX8_read_61 : decode cX8_read 61 = .ok (.ireturn, 1) := by decide +kernel
theorem dX8_read_62 : decode cX8_read 62 = .ok (.aload_n 0, 1) := by decide +kernel
theorem dX8_read_63 : decode cX8_read 63 = .ok (.getfield 53, 3) := by decide +kernel
theorem dX8_read_66 : decode cX8_read 66 = .ok (.iload_n 1, 1) := by decide +kernel
theorem dX8_read_67 : decode cX8_read 67 = .ok (.aaload, 1) := by decide +kernel
theorem dX8_read_68 : decode cX8_read 68 = .ok (.astore 6, 2) := by decide +kernel
theorem dX8_read_70 : decode cX8_read 70 = .ok (.aload 6, 2) := by decide +kernel
theorem dX8_read_72 : decode cX8_read 72 = .ok (.iload_n 2, 1) := by decide +kernel
theorem dX8_read_73 : decode cX8_read 73 = .ok (.iload_n 3, 1) := by decide +kernel
theorem dX8_read_74 : decode cX8_read 74 = .ok (.iload 5, 2) := by decide +kernel
theorem dX8_read_76 : decode cX8_read 76 = .ok (.invokevirtual 326, 3) := by decide +kernel
theorem dX8_read_79 : decode cX8_read 79 = .ok (.istore 7, 2) := by decide +kernel
theorem dX8_read_81 : decode cX8_read 81 = .ok (.iconst 0, 1) := by decide +kernel
theorem dX8_read_82 : decode cX8_read 82 = .ok (.istore 8, 2) := by decide +kernel
theorem dX8_read_84 : decode cX8_read 84 = .ok (.iload 8, 2) := by decide +kernel
theorem dX8_read_86 : decode cX8_read 86 = .ok (.iload 7, 2) := by decide +kernel
theorem dX8_read_88 : decode cX8_read 88 = .ok (.if_icmp .ge 38, 3) := by decide +kernel
theorem dX8_read_91 : decode cX8_read 91 = .ok (.aload 6, 2) := by decide +kernel
theorem dX8_read_93 : decode cX8_read 93 = .ok (.getfield 330, 3) := by decide +kernel
theorem dX8_read_96 : decode cX8_read 96 = .ok (.iload_n 3, 1) := by decide +kernel
theorem dX8_read_97 : decode cX8_read 97 = .ok (.iload 8, 2) := by decide +kernel
theorem dX8_read_99 : decode cX8_read 99 = .ok (.iadd, 1) := by decide +kernel
theorem dX8_read_100 : decode cX8_read 100 = .ok (.iaload, 1) := by decide +kernel
theorem dX8_read_101 : decode cX8_read 101 = .ok (.istore 9, 2) := by decide +kernel
theorem dX8_read_103 : decode cX8_read 103 = .ok (.iload 9, 2) := by decide +kernel
theorem dX8_read_105 : decode cX8_read 105 = .ok (.ifCond .lt 9, 3) := by decide +kernel
theorem dX8_read_108 : decode cX8_read 108 = .ok (.iload 9, 2) := by decide +kernel
theorem dX8_read_110 : decode cX8_read 110 = .ok (.iconst 2, 1) := by decide +kernel
theorem dX8_read_111 : decode cX8_read 111 = .ok (.if_icmp .le 9, 3) := by decide +kernel
theorem dX8_read_114 : decode cX8_read 114 = .ok (.bipush (-20), 2) := by decide +kernel
theorem dX8_read_116 : decode cX8_read 116 = .ok (.iload 8, 2) := by decide +kernel
theorem dX8_read_118 : decode cX8_read 118 = .ok (.isub, 1) := by decide +kernel
theorem dX8_read_119 : decode cX8_read 119 = .ok (.ireturn, 1) := by decide +kernel
theorem dX8_read_120 : decode cX8_read 120 = .ok (.iinc 8 1, 3) := by decide +kernel
theorem dX8_read_123 : decode cX8_read 123 = .ok (.goto (-39), 3) := by decide +kernel
theorem dX8_read_126 : decode cX8_read 126 = .ok (.aload_n 0, 1) := by decide +kernel
theorem dX8_read_127 : decode cX8_read 127 = .ok (.aload 6, 2) := by decide +kernel
theorem dX8_read_129 : decode cX8_read 129 = .ok (.iload_n 2, 1) := by decide +kernel
theorem dX8_read_130 : decode cX8_read 130 = .ok (.iload 7, 2) := by decide +kernel
theorem dX8_read_132 : decode cX8_read 132 = .ok (.iload 5, 2) := by decide +kernel
theorem dX8_read_134 : decode cX8_read 134 = .ok (.invokevirtual 333, 3) := by decide +kernel
theorem dX8_read_137 : decode cX8_read 137 = .ok (.putfield 336, 3) := by decide +kernel
theorem dX8_read_140 : decode cX8_read 140 = .ok (.aload_n 0, 1) := by decide +kernel
theorem dX8_read_141 : decode cX8_read 141 = .ok (.aload 6, 2) := by decide +kernel
theorem dX8_read_143 : decode cX8_read 143 = .ok (.iload_n 3, 1) := by decide +kernel
theorem dX8_read_144 : decode cX8_read 144 = .ok (.iload 4, 2) := by decide +kernel
theorem dX8_read_146 : decode cX8_read 146 = .ok (.iload 7, 2) := by decide +kernel
theorem dX8_read_148 : decode cX8_read 148 = .ok (.invokevirtual 339, 3) := by decide +kernel
theorem dX8_read_151 : decode cX8_read 151 = .ok (.ireturn, 1) := by decide +kernel
theorem dX8_torn_0 : decode cX8_torn 0 = .ok (.aload_n 0, 1) := by decide +kernel
theorem dX8_torn_1 : decode cX8_torn 1 = .ok (.getfield 336, 3) := by decide +kernel
theorem dX8_torn_4 : decode cX8_torn 4 = .ok (.ireturn, 1) := by decide +kernel
theorem dX8_count_0 : decode cX8_count 0 = .ok (.iload_n 1, 1) := by decide +kernel
theorem dX8_count_1 : decode cX8_count 1 = .ok (.tableswitch 109 0 5 #[39, 47, 55, 63, 71, 82], 39) := by decide +kernel
theorem dX8_count_40 : decode cX8_count 40 = .ok (.aload_n 0, 1) := by decide +kernel
theorem dX8_count_41 : decode cX8_count 41 = .ok (.getfield 10, 3) := by decide +kernel
theorem dX8_count_44 : decode cX8_count 44 = .ok (.getfield 101, 3) := by decide +kernel
theorem dX8_count_47 : decode cX8_count 47 = .ok (.ireturn, 1) := by decide +kernel
theorem dX8_count_48 : decode cX8_count 48 = .ok (.aload_n 0, 1) := by decide +kernel
theorem dX8_count_49 : decode cX8_count 49 = .ok (.getfield 19, 3) := by decide +kernel
theorem dX8_count_52 : decode cX8_count 52 = .ok (.getfield 95, 3) := by decide +kernel
theorem dX8_count_55 : decode cX8_count 55 = .ok (.ireturn, 1) := by decide +kernel
theorem dX8_count_56 : decode cX8_count 56 = .ok (.aload_n 0, 1) := by decide +kernel
theorem dX8_count_57 : decode cX8_count 57 = .ok (.getfield 19, 3) := by decide +kernel
theorem dX8_count_60 : decode cX8_count 60 = .ok (.invokevirtual 170, 3) := by decide +kernel
theorem dX8_count_63 : decode cX8_count 63 = .ok (.ireturn, 1) := by decide +kernel
theorem dX8_count_64 : decode cX8_count 64 = .ok (.aload_n 0, 1) := by decide +kernel
theorem dX8_count_65 : decode cX8_count 65 = .ok (.getfield 10, 3) := by decide +kernel
theorem dX8_count_68 : decode cX8_count 68 = .ok (.invokevirtual 343, 3) := by decide +kernel
theorem dX8_count_71 : decode cX8_count 71 = .ok (.ireturn, 1) := by decide +kernel
theorem dX8_count_72 : decode cX8_count 72 = .ok (.aload_n 0, 1) := by decide +kernel
theorem dX8_count_73 : decode cX8_count 73 = .ok (.getfield 33, 3) := by decide +kernel
theorem dX8_count_76 : decode cX8_count 76 = .ok (.getfield 61, 3) := by decide +kernel
theorem dX8_count_79 : decode cX8_count 79 = .ok (.getfield 65, 3) := by decide +kernel
theorem dX8_count_82 : decode cX8_count 82 = .ok (.ireturn, 1) := by decide +kernel
theorem dX8_count_83 : decode cX8_count 83 = .ok (.aload_n 0, 1) := by decide +kernel
theorem dX8_count_84 : decode cX8_count 84 = .ok (.getfield 53, 3) := by decide +kernel
theorem dX8_count_87 : decode cX8_count 87 = .ok (.iconst 0, 1) := by decide +kernel
theorem dX8_count_88 : decode cX8_count 88 = .ok (.aaload, 1) := by decide +kernel
theorem dX8_count_89 : decode cX8_count 89 = .ok (.getfield 320, 3) := by decide +kernel
theorem dX8_count_92 : decode cX8_count 92 = .ok (.ifCond .eq 15, 3) := by decide +kernel
theorem dX8_count_95 : decode cX8_count 95 = .ok (.aload_n 0, 1) := by decide +kernel
theorem dX8_count_96 : decode cX8_count 96 = .ok (.getfield 53, 3) := by decide +kernel
theorem dX8_count_99 : decode cX8_count 99 = .ok (.iconst 0, 1) := by decide +kernel
theorem dX8_count_100 : decode cX8_count 100 = .ok (.aaload, 1) := by decide +kernel
theorem dX8_count_101 : decode cX8_count 101 = .ok (.getfield 346, 3) := by decide +kernel
theorem dX8_count_104 : decode cX8_count 104 = .ok (.goto 5, 3) := by decide +kernel
theorem dX8_count_107 : decode cX8_count 107 = .ok (.bipush (-4), 2) := by decide +kernel
theorem dX8_count_109 : decode cX8_count 109 = .ok (.ireturn, 1) := by decide +kernel
theorem dX8_count_110 : decode cX8_count 110 = .ok (.iconst (-1), 1) := by decide +kernel
theorem dX8_count_111 : decode cX8_count 111 = .ok (.ireturn, 1) := by decide +kernel
theorem dX8_isSide_0 : decode cX8_isSide 0 = .ok (.iload_n 1, 1) := by decide +kernel
theorem dX8_isSide_1 : decode cX8_isSide 1 = .ok (.ifCond .lt 18, 3) := by decide +kernel
theorem dX8_isSide_4 : decode cX8_isSide 4 = .ok (.iload_n 1, 1) := by decide +kernel
theorem dX8_isSide_5 : decode cX8_isSide 5 = .ok (.aload_n 0, 1) := by decide +kernel
theorem dX8_isSide_6 : decode cX8_isSide 6 = .ok (.getfield 10, 3) := by decide +kernel
theorem dX8_isSide_9 : decode cX8_isSide 9 = .ok (.getfield 101, 3) := by decide +kernel
theorem dX8_isSide_12 : decode cX8_isSide 12 = .ok (.if_icmp .ge 7, 3) := by decide +kernel
theorem dX8_isSide_15 : decode cX8_isSide 15 = .ok (.iconst 1, 1) := by decide +kernel
theorem dX8_isSide_16 : decode cX8_isSide 16 = .ok (.goto 4, 3) := by decide +kernel
theorem dX8_isSide_19 : decode cX8_isSide 19 = .ok (.iconst 0, 1) := by decide +kernel
theorem dX8_isSide_20 : decode cX8_isSide 20 = .ok (.ireturn, 1) := by decide +kernel
theorem dX8_isPart_0 : decode cX8_isPart 0 = .ok (.iload_n 0, 1) := by decide +kernel
theorem dX8_isPart_1 : decode cX8_isPart 1 = .ok (.ifCond .eq 8, 3) := by decide +kernel
theorem dX8_isPart_4 : decode cX8_isPart 4 = .ok (.iload_n 0, 1) := by decide +kernel
theorem dX8_isPart_5 : decode cX8_isPart 5 = .ok (.iconst 1, 1) := by decide +kernel
theorem dX8_isPart_6 : decode cX8_isPart 6 = .ok (.if_icmp .ne 7, 3) := by decide +kernel
theorem dX8_isPart_9 : decode cX8_isPart 9 = .ok (.iconst 1, 1) := by decide +kernel
theorem dX8_isPart_10 : decode cX8_isPart 10 = .ok (.goto 4, 3) := by decide +kernel
theorem dX8_isPart_13 : decode cX8_isPart 13 = .ok (.iconst 0, 1) := by decide +kernel
theorem dX8_isPart_14 : decode cX8_isPart 14 = .ok (.ireturn, 1) := by decide +kernel
theorem dX8_isSheet_0 : decode cX8_isSheet 0 = .ok (.iload_n 0, 1) := by decide +kernel
theorem dX8_isSheet_1 : decode cX8_isSheet 1 = .ok (.ifCond .lt 12, 3) := by decide +kernel
theorem dX8_isSheet_4 : decode cX8_isSheet 4 = .ok (.iload_n 0, 1) := by decide +kernel
theorem dX8_isSheet_5 : decode cX8_isSheet 5 = .ok (.iconst 4, 1) := by decide +kernel
theorem dX8_isSheet_6 : decode cX8_isSheet 6 = .ok (.if_icmp .ge 7, 3) := by decide +kernel
theorem dX8_isSheet_9 : decode cX8_isSheet 9 = .ok (.iconst 1, 1) := by decide +kernel
theorem dX8_isSheet_10 : decode cX8_isSheet 10 = .ok (.goto 4, 3) := by decide +kernel
theorem dX8_isSheet_13 : decode cX8_isSheet 13 = .ok (.iconst 0, 1) := by decide +kernel
theorem dX8_isSheet_14 : decode cX8_isSheet 14 = .ok (.ireturn, 1) := by decide +kernel
theorem dX8_isLane_0 : decode cX8_isLane 0 = .ok (.iload_n 0, 1) := by decide +kernel
theorem dX8_isLane_1 : decode cX8_isLane 1 = .ok (.ifCond .lt 12, 3) := by decide +kernel
theorem dX8_isLane_4 : decode cX8_isLane 4 = .ok (.iload_n 0, 1) := by decide +kernel
theorem dX8_isLane_5 : decode cX8_isLane 5 = .ok (.iconst 3, 1) := by decide +kernel
theorem dX8_isLane_6 : decode cX8_isLane 6 = .ok (.if_icmp .ge 7, 3) := by decide +kernel
theorem dX8_isLane_9 : decode cX8_isLane 9 = .ok (.iconst 1, 1) := by decide +kernel
theorem dX8_isLane_10 : decode cX8_isLane 10 = .ok (.goto 4, 3) := by decide +kernel
theorem dX8_isLane_13 : decode cX8_isLane 13 = .ok (.iconst 0, 1) := by decide +kernel
theorem dX8_isLane_14 : decode cX8_isLane 14 = .ok (.ireturn, 1) := by decide +kernel
theorem dX8_takeEnds_0 : decode cX8_takeEnds 0 = .ok (.iconst 0, 1) := by decide +kernel
theorem dX8_takeEnds_1 : decode cX8_takeEnds 1 = .ok (.istore 5, 2) := by decide +kernel
theorem dX8_takeEnds_3 : decode cX8_takeEnds 3 = .ok (.iconst 0, 1) := by decide +kernel
theorem dX8_takeEnds_4 : decode cX8_takeEnds 4 = .ok (.istore 6, 2) := by decide +kernel
theorem dX8_takeEnds_6 : decode cX8_takeEnds 6 = .ok (.iload 6, 2) := by decide +kernel
theorem dX8_takeEnds_8 : decode cX8_takeEnds 8 = .ok (.iload 4, 2) := by decide +kernel
theorem dX8_takeEnds_10 : decode cX8_takeEnds 10 = .ok (.if_icmp .ge 54, 3) := by decide +kernel
theorem dX8_takeEnds_13 : decode cX8_takeEnds 13 = .ok (.aload_n 1, 1) := by decide +kernel
theorem dX8_takeEnds_14 : decode cX8_takeEnds 14 = .ok (.getfield 330, 3) := by decide +kernel
theorem dX8_takeEnds_17 : decode cX8_takeEnds 17 = .ok (.iload_n 2, 1) := by decide +kernel
theorem dX8_takeEnds_18 : decode cX8_takeEnds 18 = .ok (.iload 6, 2) := by decide +kernel
theorem dX8_takeEnds_20 : decode cX8_takeEnds 20 = .ok (.iadd, 1) := by decide +kernel
theorem dX8_takeEnds_21 : decode cX8_takeEnds 21 = .ok (.iaload, 1) := by decide +kernel
theorem dX8_takeEnds_22 : decode cX8_takeEnds 22 = .ok (.istore 7, 2) := by decide +kernel
theorem dX8_takeEnds_24 : decode cX8_takeEnds 24 = .ok (.aload_n 0, 1) := by decide +kernel
theorem dX8_takeEnds_25 : decode cX8_takeEnds 25 = .ok (.getfield 19, 3) := by decide +kernel
theorem dX8_takeEnds_28 : decode cX8_takeEnds 28 = .ok (.getfield 147, 3) := by decide +kernel
theorem dX8_takeEnds_31 : decode cX8_takeEnds 31 = .ok (.iload_n 3, 1) := by decide +kernel
theorem dX8_takeEnds_32 : decode cX8_takeEnds 32 = .ok (.iload 6, 2) := by decide +kernel
theorem dX8_takeEnds_34 : decode cX8_takeEnds 34 = .ok (.iadd, 1) := by decide +kernel
theorem dX8_takeEnds_35 : decode cX8_takeEnds 35 = .ok (.iaload, 1) := by decide +kernel
theorem dX8_takeEnds_36 : decode cX8_takeEnds 36 = .ok (.iload 7, 2) := by decide +kernel
theorem dX8_takeEnds_38 : decode cX8_takeEnds 38 = .ok (.if_icmp .eq 20, 3) := by decide +kernel
theorem dX8_takeEnds_41 : decode cX8_takeEnds 41 = .ok (.aload_n 0, 1) := by decide +kernel
theorem dX8_takeEnds_42 : decode cX8_takeEnds 42 = .ok (.getfield 19, 3) := by decide +kernel
theorem dX8_takeEnds_45 : decode cX8_takeEnds 45 = .ok (.getfield 147, 3) := by decide +kernel
theorem dX8_takeEnds_48 : decode cX8_takeEnds 48 = .ok (.iload_n 3, 1) := by decide +kernel
theorem dX8_takeEnds_49 : decode cX8_takeEnds 49 = .ok (.iload 6, 2) := by decide +kernel
theorem dX8_takeEnds_51 : decode cX8_takeEnds 51 = .ok (.iadd, 1) := by decide +kernel
theorem dX8_takeEnds_52 : decode cX8_takeEnds 52 = .ok (.iload 7, 2) := by decide +kernel
theorem dX8_takeEnds_54 : decode cX8_takeEnds 54 = .ok (.iastore, 1) := by decide +kernel
theorem dX8_takeEnds_55 : decode cX8_takeEnds 55 = .ok (.iinc 5 1, 3) := by decide +kernel
theorem dX8_takeEnds_58 : decode cX8_takeEnds 58 = .ok (.iinc 6 1, 3) := by decide +kernel
theorem dX8_takeEnds_61 : decode cX8_takeEnds 61 = .ok (.goto (-55), 3) := by decide +kernel
theorem dX8_takeEnds_64 : decode cX8_takeEnds 64 = .ok (.iload 5, 2) := by decide +kernel
theorem dX8_takeEnds_66 : decode cX8_takeEnds 66 = .ok (.ireturn, 1) := by decide +kernel
theorem dX8_chance_0 : decode cX8_chance 0 = .ok (.iload_n 0, 1) := by decide +kernel
theorem dX8_chance_1 : decode cX8_chance 1 = .ok (.iload_n 1, 1) := by decide +kernel
theorem dX8_chance_2 : decode cX8_chance 2 = .ok (.iadd, 1) := by decide +kernel
theorem dX8_chance_3 : decode cX8_chance 3 = .ok (.istore_n 2, 1) := by decide +kernel
theorem dX8_chance_4 : decode cX8_chance 4 = .ok (.iload_n 2, 1) := by decide +kernel
theorem dX8_chance_5 : decode cX8_chance 5 = .ok (.ifCond .gt 5, 3) := by decide +kernel
theorem dX8_chance_8 : decode cX8_chance 8 = .ok (.iconst 1, 1) := by decide +kernel
theorem dX8_chance_9 : decode cX8_chance 9 = .ok (.ireturn, 1) := by decide +kernel
theorem dX8_chance_10 : decode cX8_chance 10 = .ok (.iconst 1, 1) := by decide +kernel
theorem dX8_chance_11 : decode cX8_chance 11 = .ok (.bipush 15, 2) := by decide +kernel
theorem dX8_chance_13 : decode cX8_chance 13 = .ok (.bipush 16, 2) := by decide +kernel
theorem dX8_chance_15 : decode cX8_chance 15 = .ok (.iload_n 0, 1) := by decide +kernel
theorem dX8_chance_16 : decode cX8_chance 16 = .ok (.imul, 1) := by decide +kernel
theorem dX8_chance_17 : decode cX8_chance 17 = .ok (.iload_n 2, 1) := by decide +kernel
theorem dX8_chance_18 : decode cX8_chance 18 = .ok (.idiv, 1) := by decide +kernel
theorem dX8_chance_19 : decode cX8_chance 19 = .ok (.invokestatic 347, 3) := by decide +kernel
theorem dX8_chance_22 : decode cX8_chance 22 = .ok (.invokestatic 352, 3) := by decide +kernel
theorem dX8_chance_25 : decode cX8_chance 25 = .ok (.ireturn, 1) := by decide +kernel
theorem dX8_rested_0 : decode cX8_rested 0 = .ok (.iconst 1, 1) := by decide +kernel
theorem dX8_rested_1 : decode cX8_rested 1 = .ok (.iload_n 0, 1) := by decide +kernel
theorem dX8_rested_2 : decode cX8_rested 2 = .ok (.iconst 2, 1) := by decide +kernel
theorem dX8_rested_3 : decode cX8_rested 3 = .ok (.idiv, 1) := by decide +kernel
theorem dX8_rested_4 : decode cX8_rested 4 = .ok (.invokestatic 352, 3) := by decide +kernel
theorem dX8_rested_7 : decode cX8_rested 7 = .ok (.ireturn, 1) := by decide +kernel
theorem dX8_part_0 : decode cX8_part 0 = .ok (.lload_n 0, 1) := by decide +kernel
theorem dX8_part_1 : decode cX8_part 1 = .ok (.lload_n 2, 1) := by decide +kernel
theorem dX8_part_2 : decode cX8_part 2 = .ok (.invokestatic 355, 3) := by decide +kernel
theorem dX8_part_5 : decode cX8_part 5 = .ok (.lstore 5, 2) := by decide +kernel
theorem dX8_part_7 : decode cX8_part 7 = .ok (.lload 5, 2) := by decide +kernel
theorem dX8_part_9 : decode cX8_part 9 = .ok (.lconst 0, 1) := by decide +kernel
theorem dX8_part_10 : decode cX8_part 10 = .ok (.lcmp, 1) := by decide +kernel
theorem dX8_part_11 : decode cX8_part 11 = .ok (.ifCond .gt 5, 3) := by decide +kernel
theorem dX8_part_14 : decode cX8_part 14 = .ok (.lconst 0, 1) := by decide +kernel
theorem dX8_part_15 : decode cX8_part 15 = .ok (.lreturn, 1) := by decide +kernel
theorem dX8_part_16 : decode cX8_part 16 = .ok (.iload 4, 2) := by decide +kernel
theorem dX8_part_18 : decode cX8_part 18 = .ok (.ifCond .ne 10, 3) := by decide +kernel
theorem dX8_part_21 : decode cX8_part 21 = .ok (.lload_n 0, 1) := by decide +kernel
theorem dX8_part_22 : decode cX8_part 22 = .ok (.lload 5, 2) := by decide +kernel
theorem dX8_part_24 : decode cX8_part 24 = .ok (.ldiv, 1) := by decide +kernel
theorem dX8_part_25 : decode cX8_part 25 = .ok (.goto 7, 3) := by decide +kernel
theorem dX8_part_28 : decode cX8_part 28 = .ok (.lload_n 2, 1) := by decide +kernel
theorem dX8_part_29 : decode cX8_part 29 = .ok (.lload 5, 2) := by decide +kernel
theorem dX8_part_31 : decode cX8_part 31 = .ok (.ldiv, 1) := by decide +kernel
theorem dX8_part_32 : decode cX8_part 32 = .ok (.lreturn, 1) := by decide +kernel
theorem dX8_divisor_0 : decode cX8_divisor 0 = .ok (.iconst 0, 1) := by decide +kernel
theorem dX8_divisor_1 : decode cX8_divisor 1 = .ok (.istore 4, 2) := by decide +kernel
theorem dX8_divisor_3 : decode cX8_divisor 3 = .ok (.iload 4, 2) := by decide +kernel
theorem dX8_divisor_5 : decode cX8_divisor 5 = .ok (.bipush 100, 2) := by decide +kernel
theorem dX8_divisor_7 : decode cX8_divisor 7 = .ok (.if_icmp .ge 25, 3) := by decide +kernel
theorem dX8_divisor_10 : decode cX8_divisor 10 = .ok (.lload_n 2, 1) := by decide +kernel
theorem dX8_divisor_11 : decode cX8_divisor 11 = .ok (.lconst 0, 1) := by decide +kernel
theorem dX8_divisor_12 : decode cX8_divisor 12 = .ok (.lcmp, 1) := by decide +kernel
theorem dX8_divisor_13 : decode cX8_divisor 13 = .ok (.ifCond .eq 19, 3) := by decide +kernel
theorem dX8_divisor_16 : decode cX8_divisor 16 = .ok (.lload_n 0, 1) := by decide +kernel
theorem dX8_divisor_17 : decode cX8_divisor 17 = .ok (.lload_n 2, 1) := by decide +kernel
theorem dX8_divisor_18 : decode cX8_divisor 18 = .ok (.lrem, 1) := by decide +kernel
theorem dX8_divisor_19 : decode cX8_divisor 19 = .ok (.lstore 5, 2) := by decide +kernel
theorem dX8_divisor_21 : decode cX8_divisor 21 = .ok (.lload_n 2, 1) := by decide +kernel
theorem dX8_divisor_22 : decode cX8_divisor 22 = .ok (.lstore_n 0, 1) := by decide +kernel
theorem dX8_divisor_23 : decode cX8_divisor 23 = .ok (.lload 5, 2) := by decide +kernel
theorem dX8_divisor_25 : decode cX8_divisor 25 = .ok (.lstore_n 2, 1) := by decide +kernel
theorem dX8_divisor_26 : decode cX8_divisor 26 = .ok (.iinc 4 1, 3) := by decide +kernel
theorem dX8_divisor_29 : decode cX8_divisor 29 = .ok (.goto (-26), 3) := by decide +kernel
theorem dX8_divisor_32 : decode cX8_divisor 32 = .ok (.lload_n 0, 1) := by decide +kernel
theorem dX8_divisor_33 : decode cX8_divisor 33 = .ok (.lreturn, 1) := by decide +kernel
theorem dX8_power_0 : decode cX8_power 0 = .ok (.lconst 1, 1) := by decide +kernel
theorem dX8_power_1 : decode cX8_power 1 = .ok (.lstore_n 2, 1) := by decide +kernel
theorem dX8_power_2 : decode cX8_power 2 = .ok (.iconst 0, 1) := by decide +kernel
theorem dX8_power_3 : decode cX8_power 3 = .ok (.istore 4, 2) := by decide +kernel
theorem dX8_power_5 : decode cX8_power 5 = .ok (.iload 4, 2) := by decide +kernel
theorem dX8_power_7 : decode cX8_power 7 = .ok (.iload_n 1, 1) := by decide +kernel
theorem dX8_power_8 : decode cX8_power 8 = .ok (.if_icmp .ge 14, 3) := by decide +kernel
theorem dX8_power_11 : decode cX8_power 11 = .ok (.lload_n 2, 1) := by decide +kernel
theorem dX8_power_12 : decode cX8_power 12 = .ok (.iload_n 0, 1) := by decide +kernel
theorem dX8_power_13 : decode cX8_power 13 = .ok (.i2l, 1) := by decide +kernel
theorem dX8_power_14 : decode cX8_power 14 = .ok (.lmul, 1) := by decide +kernel
theorem dX8_power_15 : decode cX8_power 15 = .ok (.lstore_n 2, 1) := by decide +kernel
theorem dX8_power_16 : decode cX8_power 16 = .ok (.iinc 4 1, 3) := by decide +kernel
theorem dX8_power_19 : decode cX8_power 19 = .ok (.goto (-14), 3) := by decide +kernel
theorem dX8_power_22 : decode cX8_power 22 = .ok (.lload_n 2, 1) := by decide +kernel
theorem dX8_power_23 : decode cX8_power 23 = .ok (.lreturn, 1) := by decide +kernel
theorem dX8_restedOrMore_0 : decode cX8_restedOrMore 0 = .ok (.lconst 0, 1) := by decide +kernel
theorem dX8_restedOrMore_1 : decode cX8_restedOrMore 1 = .ok (.lstore_n 2, 1) := by decide +kernel
theorem dX8_restedOrMore_2 : decode cX8_restedOrMore 2 = .ok (.lconst 1, 1) := by decide +kernel
theorem dX8_restedOrMore_3 : decode cX8_restedOrMore 3 = .ok (.lstore 4, 2) := by decide +kernel
theorem dX8_restedOrMore_5 : decode cX8_restedOrMore 5 = .ok (.iconst 0, 1) := by decide +kernel
theorem dX8_restedOrMore_6 : decode cX8_restedOrMore 6 = .ok (.istore 6, 2) := by decide +kernel
theorem dX8_restedOrMore_8 : decode cX8_restedOrMore 8 = .ok (.iload 6, 2) := by decide +kernel
theorem dX8_restedOrMore_10 : decode cX8_restedOrMore 10 = .ok (.iload_n 0, 1) := by decide +kernel
theorem dX8_restedOrMore_11 : decode cX8_restedOrMore 11 = .ok (.if_icmp .gt 45, 3) := by decide +kernel
theorem dX8_restedOrMore_14 : decode cX8_restedOrMore 14 = .ok (.iload 6, 2) := by decide +kernel
theorem dX8_restedOrMore_16 : decode cX8_restedOrMore 16 = .ok (.iload_n 1, 1) := by decide +kernel
theorem dX8_restedOrMore_17 : decode cX8_restedOrMore 17 = .ok (.if_icmp .lt 17, 3) := by decide +kernel
theorem dX8_restedOrMore_20 : decode cX8_restedOrMore 20 = .ok (.lload_n 2, 1) := by decide +kernel
theorem dX8_restedOrMore_21 : decode cX8_restedOrMore 21 = .ok (.lload 4, 2) := by decide +kernel
theorem dX8_restedOrMore_23 : decode cX8_restedOrMore 23 = .ok (.iconst 5, 1) := by decide +kernel
theorem dX8_restedOrMore_24 : decode cX8_restedOrMore 24 = .ok (.iload_n 0, 1) := by decide +kernel
theorem dX8_restedOrMore_25 : decode cX8_restedOrMore 25 = .ok (.iload 6, 2) := by decide +kernel
theorem dX8_restedOrMore_27 : decode cX8_restedOrMore 27 = .ok (.isub, 1) := by decide +kernel
theorem dX8_restedOrMore_28 : decode cX8_restedOrMore 28 = .ok (.invokestatic 307, 3) := by decide +kernel
theorem dX8_restedOrMore_31 : decode cX8_restedOrMore 31 = .ok (.lmul, 1) := by decide +kernel
theorem dX8_restedOrMore_32 : decode cX8_restedOrMore 32 = .ok (.ladd, 1) := by decide +kernel
theorem dX8_restedOrMore_33 : decode cX8_restedOrMore 33 = .ok (.lstore_n 2, 1) := by decide +kernel
theorem dX8_restedOrMore_34 : decode cX8_restedOrMore 34 = .ok (.lload 4, 2) := by decide +kernel
theorem dX8_restedOrMore_36 : decode cX8_restedOrMore 36 = .ok (.iload_n 0, 1) := by decide +kernel
theorem dX8_restedOrMore_37 : decode cX8_restedOrMore 37 = .ok (.iload 6, 2) := by decide +kernel
theorem dX8_restedOrMore_39 : decode cX8_restedOrMore 39 = .ok (.isub, 1) := by decide +kernel
theorem dX8_restedOrMore_40 : decode cX8_restedOrMore 40 = .ok (.i2l, 1) := by decide +kernel
theorem dX8_restedOrMore_41 : decode cX8_restedOrMore 41 = .ok (.lmul, 1) := by decide +kernel
theorem dX8_restedOrMore_42 : decode cX8_restedOrMore 42 = .ok (.iload 6, 2) := by decide +kernel
theorem dX8_restedOrMore_44 : decode cX8_restedOrMore 44 = .ok (.iconst 1, 1) := by decide +kernel
theorem dX8_restedOrMore_45 : decode cX8_restedOrMore 45 = .ok (.iadd, 1) := by decide +kernel
theorem dX8_restedOrMore_46 : decode cX8_restedOrMore 46 = .ok (.i2l, 1) := by decide +kernel
theorem dX8_restedOrMore_47 : decode cX8_restedOrMore 47 = .ok (.ldiv, 1) := by decide +kernel
theorem dX8_restedOrMore_48 : decode cX8_restedOrMore 48 = .ok (.lstore 4, 2) := by decide +kernel
theorem dX8_restedOrMore_50 : decode cX8_restedOrMore 50 = .ok (.iinc 6 1, 3) := by decide +kernel
theorem dX8_restedOrMore_53 : decode cX8_restedOrMore 53 = .ok (.goto (-45), 3) := by decide +kernel
theorem dX8_restedOrMore_56 : decode cX8_restedOrMore 56 = .ok (.lload_n 2, 1) := by decide +kernel
theorem dX8_restedOrMore_57 : decode cX8_restedOrMore 57 = .ok (.lreturn, 1) := by decide +kernel
