set_option maxRecDepth 20000 in
theorem ggX6_init_X0_init : GoodIn wsX6_init wsX0_init := goodIn_r _ [25, 26, 2, 3, 8, 27, 28, 29, 62, 63, 64, 65] (by decide +kernel) (by decide +kernel)
set_option maxRecDepth 20000 in
theorem gX6_init_X0_init_n33 : GoodIn wsX6_init (wsX0_init) := ggX6_init_X0_init
set_option maxRecDepth 20000 in
theorem ggX6_init_X4_init : GoodIn wsX6_init wsX4_init := goodIn_r _ [31, 32, 2, 3, 8, 33, 34, 35, 36, 37, 38, 39, 66, 67, 68, 69, 70, 71, 72, 73] (by decide +kernel) (by decide +kernel)
set_option maxRecDepth 20000 in
theorem gX6_init_X4_init_n40 : GoodIn wsX6_init (wsX4_init) := ggX6_init_X4_init
set_option maxRecDepth 20000 in
theorem ggX6_init_X2_init : GoodIn wsX6_init wsX2_init := goodIn_r _ [41, 42, 2, 3, 8, 43, 44, 45, 46, 47, 74, 75, 76, 77, 78, 79, 80, 81] (by decide +kernel) (by decide +kernel)
set_option maxRecDepth 20000 in
theorem gX6_init_X2_init_n47 : GoodIn wsX6_init (wsX2_init) := ggX6_init_X2_init
theorem dX6_init_0 : decode cX6_init 0 = .ok (.aload_n 0, 1) := by decide +kernel
theorem dX6_init_1 : decode cX6_init 1 = .ok (.invokespecial 3, 3) := by decide +kernel
theorem dX6_init_4 : decode cX6_init 4 = .ok (.aload_n 0, 1) := by decide +kernel
theorem dX6_init_5 : decode cX6_init 5 = .ok (.sipush 768, 3) := by decide +kernel
theorem dX6_init_8 : decode cX6_init 8 = .ok (.newarray .long, 2) := by decide +kernel
theorem dX6_init_10 : decode cX6_init 10 = .ok (.putfield 9, 3) := by decide +kernel
theorem dX6_init_13 : decode cX6_init 13 = .ok (.aload_n 0, 1) := by decide +kernel
theorem dX6_init_14 : decode cX6_init 14 = .ok (.sipush 128, 3) := by decide +kernel
theorem dX6_init_17 : decode cX6_init 17 = .ok (.newarray .long, 2) := by decide +kernel
theorem dX6_init_19 : decode cX6_init 19 = .ok (.putfield 15, 3) := by decide +kernel
theorem dX6_init_22 : decode cX6_init 22 = .ok (.aload_n 0, 1) := by decide +kernel
theorem dX6_init_23 : decode cX6_init 23 = .ok (.bipush 6, 2) := by decide +kernel
theorem dX6_init_25 : decode cX6_init 25 = .ok (.newarray .long, 2) := by decide +kernel
theorem dX6_init_27 : decode cX6_init 27 = .ok (.putfield 18, 3) := by decide +kernel
theorem dX6_init_30 : decode cX6_init 30 = .ok (.aload_n 0, 1) := by decide +kernel
theorem dX6_init_31 : decode cX6_init 31 = .ok (.bipush 7, 2) := by decide +kernel
theorem dX6_init_33 : decode cX6_init 33 = .ok (.newarray .int, 2) := by decide +kernel
theorem dX6_init_35 : decode cX6_init 35 = .ok (.putfield 21, 3) := by decide +kernel
theorem dX6_init_38 : decode cX6_init 38 = .ok (.aload_n 0, 1) := by decide +kernel
theorem dX6_init_39 : decode cX6_init 39 = .ok (.bipush 7, 2) := by decide +kernel
theorem dX6_init_41 : decode cX6_init 41 = .ok (.newarray .int, 2) := by decide +kernel
theorem dX6_init_43 : decode cX6_init 43 = .ok (.putfield 25, 3) := by decide +kernel
theorem dX6_init_46 : decode cX6_init 46 = .ok (.aload_n 0, 1) := by decide +kernel
theorem dX6_init_47 : decode cX6_init 47 = .ok (.iconst 4, 1) := by decide +kernel
theorem dX6_init_48 : decode cX6_init 48 = .ok (.newarray .int, 2) := by decide +kernel
theorem dX6_init_50 : decode cX6_init 50 = .ok (.putfield 28, 3) := by decide +kernel
theorem dX6_init_53 : decode cX6_init 53 = .ok (.aload_n 0, 1) := by decide +kernel
theorem dX6_init_54 : decode cX6_init 54 = .ok (.new 31, 3) := by decide +kernel
theorem dX6_init_57 : decode cX6_init 57 = .ok (.dup, 1) := by decide +kernel
theorem dX6_init_58 : decode cX6_init 58 = .ok (.invokespecial 33, 3) := by decide +kernel
theorem dX6_init_61 : decode cX6_init 61 = .ok (.putfield 34, 3) := by decide +kernel
theorem dX6_init_64 : decode cX6_init 64 = .ok (.aload_n 0, 1) := by decide +kernel
theorem dX6_init_65 : decode cX6_init 65 = .ok (.new 38, 3) := by decide +kernel
theorem dX6_init_68 : decode cX6_init 68 = .ok (.dup, 1) := by decide +kernel
theorem dX6_init_69 : decode cX6_init 69 = .ok (.invokespecial 40, 3) := by decide +kernel
theorem dX6_init_72 : decode cX6_init 72 = .ok (.putfield 41, 3) := by decide +kernel
theorem dX6_init_75 : decode cX6_init 75 = .ok (.aload_n 0, 1) := by decide +kernel
theorem dX6_init_76 : decode cX6_init 76 = .ok (.new 45, 3) := by decide +kernel
theorem dX6_init_79 : decode cX6_init 79 = .ok (.dup, 1) := by decide +kernel
theorem dX6_init_80 : decode cX6_init 80 = .ok (.invokespecial 47, 3) := by decide +kernel
theorem dX6_init_83 : decode cX6_init 83 = .ok (.putfield 48, 3) := by decide +kernel
theorem dX6_init_86 : decode cX6_init 86 = .ok (.return_, 1) := by decide +kernel
set_option maxRecDepth 20000 in
theorem ggX6_begin_X2_copyFrom : GoodIn wsX6_begin wsX2_copyFrom := goodIn_r _ [15, 16, 17, 18, 19, 20, 21, 22, 23, 61, 62, 63, 64, 65, 66, 67, 68] (by decide +kernel) (by decide +kernel)
set_option maxRecDepth 20000 in
theorem gX6_begin_X2_copyFrom : GoodIn wsX6_begin (wsV RX6 52 RX2 yX2_copyFrom wsX2_copyFrom) := goodIn_app (goodIn_of _ (by decide +kernel)) ggX6_begin_X2_copyFrom
set_option maxRecDepth 20000 in
theorem ggX6_begin_X0_copyFrom : GoodIn wsX6_begin wsX0_copyFrom := goodIn_r _ [28, 29, 30, 31, 32, 57, 58, 59, 60] (by decide +kernel) (by decide +kernel)
set_option maxRecDepth 20000 in
theorem gX6_begin_X0_copyFrom : GoodIn wsX6_begin (wsV RX6 56 RX0 yX0_copyFrom wsX0_copyFrom) := goodIn_app (goodIn_of _ (by decide +kernel)) ggX6_begin_X0_copyFrom
set_option maxRecDepth 20000 in
theorem ggX6_begin_X8_chance : GoodIn wsX6_begin wsX8_chance := goodIn_r _ [35, 36, 37, 38, 39, 40, 41, 42] (by decide +kernel) (by decide +kernel)
set_option maxRecDepth 20000 in
theorem gX6_begin_X8_chance_n78 : GoodIn wsX6_begin (wsX8_chance) := ggX6_begin_X8_chance
theorem dX6_begin_0 : decode cX6_begin 0 = .ok (.aload_n 0, 1) := by decide +kernel
theorem dX6_begin_1 : decode cX6_begin 1 = .ok (.getfield 48, 3) := by decide +kernel
theorem dX6_begin_4 : decode cX6_begin 4 = .ok (.aload_n 1, 1) := by decide +kernel
theorem dX6_begin_5 : decode cX6_begin 5 = .ok (.invokevirtual 52, 3) := by decide +kernel
theorem dX6_begin_8 : decode cX6_begin 8 = .ok (.aload_n 0, 1) := by decide +kernel
theorem dX6_begin_9 : decode cX6_begin 9 = .ok (.getfield 34, 3) := by decide +kernel
theorem dX6_begin_12 : decode cX6_begin 12 = .ok (.aload_n 2, 1) := by decide +kernel
theorem dX6_begin_13 : decode cX6_begin 13 = .ok (.invokevirtual 56, 3) := by decide +kernel
theorem dX6_begin_16 : decode cX6_begin 16 = .ok (.aload_n 0, 1) := by decide +kernel
theorem dX6_begin_17 : decode cX6_begin 17 = .ok (.iconst 0, 1) := by decide +kernel
theorem dX6_begin_18 : decode cX6_begin 18 = .ok (.putfield 59, 3) := by decide +kernel
theorem dX6_begin_21 : decode cX6_begin 21 = .ok (.iconst 0, 1) := by decide +kernel
theorem dX6_begin_22 : decode cX6_begin 22 = .ok (.istore_n 3, 1) := by decide +kernel
theorem dX6_begin_23 : decode cX6_begin 23 = .ok (.iload_n 3, 1) := by decide +kernel
theorem dX6_begin_24 : decode cX6_begin 24 = .ok (.aload_n 2, 1) := by decide +kernel
theorem dX6_begin_25 : decode cX6_begin 25 = .ok (.getfield 63, 3) := by decide +kernel
theorem dX6_begin_28 : decode cX6_begin 28 = .ok (.if_icmp .ge 88, 3) := by decide +kernel
theorem dX6_begin_31 : decode cX6_begin 31 = .ok (.aload_n 2, 1) := by decide +kernel
theorem dX6_begin_32 : decode cX6_begin 32 = .ok (.getfield 66, 3) := by decide +kernel
theorem dX6_begin_35 : decode cX6_begin 35 = .ok (.iload_n 3, 1) := by decide +kernel
theorem dX6_begin_36 : decode cX6_begin 36 = .ok (.iaload, 1) := by decide +kernel
theorem dX6_begin_37 : decode cX6_begin 37 = .ok (.iconst 2, 1) := by decide +kernel
theorem dX6_begin_38 : decode cX6_begin 38 = .ok (.if_icmp .ne 72, 3) := by decide +kernel
theorem dX6_begin_41 : decode cX6_begin 41 = .ok (.aload_n 0, 1) := by decide +kernel
theorem dX6_begin_42 : decode cX6_begin 42 = .ok (.getfield 59, 3) := by decide +kernel
theorem dX6_begin_45 : decode cX6_begin 45 = .ok (.bipush 7, 2) := by decide +kernel
theorem dX6_begin_47 : decode cX6_begin 47 = .ok (.if_icmp .ge 63, 3) := by decide +kernel
theorem dX6_begin_50 : decode cX6_begin 50 = .ok (.aload_n 0, 1) := by decide +kernel
theorem dX6_begin_51 : decode cX6_begin 51 = .ok (.getfield 21, 3) := by decide +kernel
theorem dX6_begin_54 : decode cX6_begin 54 = .ok (.aload_n 0, 1) := by decide +kernel
theorem dX6_begin_55 : decode cX6_begin 55 = .ok (.getfield 59, 3) := by decide +kernel
theorem dX6_begin_58 : decode cX6_begin 58 = .ok (.iload_n 3, 1) := by decide +kernel
theorem dX6_begin_59 : decode cX6_begin 59 = .ok (.iastore, 1) := by decide +kernel
theorem dX6_begin_60 : decode cX6_begin 60 = .ok (.aload_n 0, 1) := by decide +kernel
theorem dX6_begin_61 : decode cX6_begin 61 = .ok (.getfield 25, 3) := by decide +kernel
theorem dX6_begin_64 : decode cX6_begin 64 = .ok (.aload_n 0, 1) := by decide +kernel
theorem dX6_begin_65 : decode cX6_begin 65 = .ok (.getfield 59, 3) := by decide +kernel
theorem dX6_begin_68 : decode cX6_begin 68 = .ok (.aload_n 0, 1) := by decide +kernel
theorem dX6_begin_69 : decode cX6_begin 69 = .ok (.getfield 48, 3) := by decide +kernel
theorem dX6_begin_72 : decode cX6_begin 72 = .ok (.getfield 69, 3) := by decide +kernel
theorem dX6_begin_75 : decode cX6_begin 75 = .ok (.aload_n 2, 1) := by decide +kernel
theorem dX6_begin_76 : decode cX6_begin 76 = .ok (.getfield 72, 3) := by decide +kernel
theorem dX6_begin_79 : decode cX6_begin 79 = .ok (.iload_n 3, 1) := by decide +kernel
theorem dX6_begin_80 : decode cX6_begin 80 = .ok (.iaload, 1) := by decide +kernel
theorem dX6_begin_81 : decode cX6_begin 81 = .ok (.iaload, 1) := by decide +kernel
theorem dX6_begin_82 : decode cX6_begin 82 = .ok (.aload_n 0, 1) := by decide +kernel
theorem dX6_begin_83 : decode cX6_begin 83 = .ok (.getfield 48, 3) := by decide +kernel
theorem dX6_begin_86 : decode cX6_begin 86 = .ok (.getfield 69, 3) := by decide +kernel
theorem dX6_begin_89 : decode cX6_begin 89 = .ok (.aload_n 2, 1) := by decide +kernel
theorem dX6_begin_90 : decode cX6_begin 90 = .ok (.getfield 75, 3) := by decide +kernel
theorem dX6_begin_93 : decode cX6_begin 93 = .ok (.iload_n 3, 1) := by decide +kernel
theorem dX6_begin_94 : decode cX6_begin 94 = .ok (.iaload, 1) := by decide +kernel
theorem dX6_begin_95 : decode cX6_begin 95 = .ok (.iaload, 1) := by decide +kernel
theorem dX6_begin_96 : decode cX6_begin 96 = .ok (.invokestatic 78, 3) := by decide +kernel
theorem dX6_begin_99 : decode cX6_begin 99 = .ok (.iastore, 1) := by decide +kernel
theorem dX6_begin_100 : decode cX6_begin 100 = .ok (.aload_n 0, 1) := by decide +kernel
theorem dX6_begin_101 : decode cX6_begin 101 = .ok (.dup, 1) := by decide +kernel
theorem dX6_begin_102 : decode cX6_begin 102 = .ok (.getfield 59, 3) := by decide +kernel
theorem dX6_begin_105 : decode cX6_begin 105 = .ok (.iconst 1, 1) := by decide +kernel
theorem dX6_begin_106 : decode cX6_begin 106 = .ok (.iadd, 1) := by decide +kernel
theorem dX6_begin_107 : decode cX6_begin 107 = .ok (.putfield 59, 3) := by decide +kernel
theorem dX6_begin_110 : decode cX6_begin 110 = .ok (.iinc 3 1, 3) := by decide +kernel
theorem dX6_begin_113 : decode cX6_begin 113 = .ok (.goto (-90), 3) := by decide +kernel
theorem dX6_begin_116 : decode cX6_begin 116 = .ok (.return_, 1) := by decide +kernel
set_option maxRecDepth 20000 in
theorem ggX6_lookAt_X4_settle : GoodIn wsX6_lookAt wsX4_settle := goodIn_r _ [12, 13, 14, 15, 16, 17, 18, 19, 20, 21, 22, 23, 24, 25, 26, 53, 54, 55, 56, 57, 58, 59, 60, 41, 42, 43, 44] (by decide +kernel) (by decide +kernel)
set_option maxRecDepth 20000 in
theorem gX6_lookAt_X4_settle : GoodIn wsX6_lookAt (wsV RX6 85 RX4 yX4_settle wsX4_settle) := goodIn_app (goodIn_of _ (by decide +kernel)) ggX6_lookAt_X4_settle
theorem dX6_lookAt_0 : decode cX6_lookAt 0 = .ok (.iconst 0, 1) := by decide +kernel
theorem dX6_lookAt_1 : decode cX6_lookAt 1 = .ok (.istore_n 2, 1) := by decide +kernel
theorem dX6_lookAt_2 : decode cX6_lookAt 2 = .ok (.iload_n 2, 1) := by decide +kernel
theorem dX6_lookAt_3 : decode cX6_lookAt 3 = .ok (.aload_n 0, 1) := by decide +kernel
theorem dX6_lookAt_4 : decode cX6_lookAt 4 = .ok (.getfield 59, 3) := by decide +kernel
theorem dX6_lookAt_7 : decode cX6_lookAt 7 = .ok (.if_icmp .ge 35, 3) := by decide +kernel
theorem dX6_lookAt_10 : decode cX6_lookAt 10 = .ok (.aload_n 0, 1) := by decide +kernel
theorem dX6_lookAt_11 : decode cX6_lookAt 11 = .ok (.getfield 34, 3) := by decide +kernel
theorem dX6_lookAt_14 : decode cX6_lookAt 14 = .ok (.getfield 66, 3) := by decide +kernel
theorem dX6_lookAt_17 : decode cX6_lookAt 17 = .ok (.aload_n 0, 1) := by decide +kernel
theorem dX6_lookAt_18 : decode cX6_lookAt 18 = .ok (.getfield 21, 3) := by decide +kernel
theorem dX6_lookAt_21 : decode cX6_lookAt 21 = .ok (.iload_n 2, 1) := by decide +kernel
theorem dX6_lookAt_22 : decode cX6_lookAt 22 = .ok (.iaload, 1) := by decide +kernel
theorem dX6_lookAt_23 : decode cX6_lookAt 23 = .ok (.iload_n 1, 1) := by decide +kernel
theorem dX6_lookAt_24 : decode cX6_lookAt 24 = .ok (.aload_n 0, 1) := by decide +kernel
theorem dX6_lookAt_25 : decode cX6_lookAt 25 = .ok (.getfield 59, 3) := by decide +kernel
theorem dX6_lookAt_28 : decode cX6_lookAt 28 = .ok (.iconst 1, 1) := by decide +kernel
theorem dX6_lookAt_29 : decode cX6_lookAt 29 = .ok (.isub, 1) := by decide +kernel
theorem dX6_lookAt_30 : decode cX6_lookAt 30 = .ok (.iload_n 2, 1) := by decide +kernel
theorem dX6_lookAt_31 : decode cX6_lookAt 31 = .ok (.isub, 1) := by decide +kernel
theorem dX6_lookAt_32 : decode cX6_lookAt 32 = .ok (.ishr, 1) := by decide +kernel
theorem dX6_lookAt_33 : decode cX6_lookAt 33 = .ok (.iconst 1, 1) := by decide +kernel
theorem dX6_lookAt_34 : decode cX6_lookAt 34 = .ok (.iand, 1) := by decide +kernel
theorem dX6_lookAt_35 : decode cX6_lookAt 35 = .ok (.iastore, 1) := by decide +kernel
theorem dX6_lookAt_36 : decode cX6_lookAt 36 = .ok (.iinc 2 1, 3) := by decide +kernel
theorem dX6_lookAt_39 : decode cX6_lookAt 39 = .ok (.goto (-37), 3) := by decide +kernel
theorem dX6_lookAt_42 : decode cX6_lookAt 42 = .ok (.aload_n 0, 1) := by decide +kernel
theorem dX6_lookAt_43 : decode cX6_lookAt 43 = .ok (.getfield 41, 3) := by decide +kernel
theorem dX6_lookAt_46 : decode cX6_lookAt 46 = .ok (.aload_n 0, 1) := by decide +kernel
theorem dX6_lookAt_47 : decode cX6_lookAt 47 = .ok (.getfield 34, 3) := by decide +kernel
theorem dX6_lookAt_50 : decode cX6_lookAt 50 = .ok (.aload_n 0, 1) := by decide +kernel
theorem dX6_lookAt_51 : decode cX6_lookAt 51 = .ok (.getfield 48, 3) := by decide +kernel
theorem dX6_lookAt_54 : decode cX6_lookAt 54 = .ok (.getfield 82, 3) := by decide +kernel
theorem dX6_lookAt_57 : decode cX6_lookAt 57 = .ok (.invokevirtual 85, 3) := by decide +kernel
theorem dX6_lookAt_60 : decode cX6_lookAt 60 = .ok (.return_, 1) := by decide +kernel
set_option maxRecDepth 20000 in
theorem ggX6_growPays_X6_begin : GoodIn wsX6_growPays wsX6_begin := goodIn_r _ [10, 3, 4, 1, 11, 12, 13, 14, 15, 16, 17, 18, 19, 20, 21, 22, 23, 24, 25, 26, 27, 28, 29, 30, 31, 32, 33, 34, 35, 36, 37, 38, 39, 40, 41, 42, 43, 44, 45, 46, 47, 48, 49, 139, 140, 141, 142, 143, 144, 145, 146, 147, 148, 149, 150, 151, 152, 153, 154, 155, 156, 157, 158, 159, 160, 161, 162, 163, 164] (by decide +kernel) (by decide +kernel)
set_option maxRecDepth 20000 in
theorem gX6_growPays_X6_begin : GoodIn wsX6_growPays (wsV RX6 89 RX6 yX6_begin wsX6_begin) := goodIn_app (goodIn_of _ (by decide +kernel)) ggX6_growPays_X6_begin
set_option maxRecDepth 20000 in
theorem ggX6_growPays_X6_lookAt : GoodIn wsX6_growPays wsX6_lookAt := goodIn_r _ [53, 1, 4, 12, 13, 2, 3, 54, 55, 56, 57, 58, 59, 60, 61, 62, 63, 64, 65, 66, 67, 68, 34, 69, 39, 37, 38, 139, 140, 141, 142, 143, 144, 145, 146, 147, 148, 149, 150, 151, 152, 153, 154, 155, 156, 157, 158, 159, 160, 161, 162, 163, 164, 165, 166, 167, 168, 169, 170, 171, 172] (by decide +kernel) (by decide +kernel)
set_option maxRecDepth 20000 in
theorem gX6_growPays_X6_lookAt : GoodIn wsX6_growPays (wsV RX6 93 RX6 yX6_lookAt wsX6_lookAt) := goodIn_app (goodIn_of _ (by decide +kernel)) ggX6_growPays_X6_lookAt
set_option maxRecDepth 20000 in
theorem ggX6_growPays_X4_payAll : GoodIn wsX6_growPays wsX4_payAll := goodIn_r _ [73, 74, 60, 75, 65, 76, 77, 78, 79, 21, 80, 24, 81, 48, 45, 49, 23, 82, 83, 84, 85, 29, 86, 87, 88, 89, 28, 90, 91, 92, 58, 93, 64, 94, 95, 96, 97, 98, 99, 100, 101, 102, 103, 104, 105, 106, 107, 108, 109, 110, 111, 112, 113, 114, 115, 116, 117, 118, 119, 120, 121, 122, 123, 124, 125, 126, 61, 127, 62, 128, 129, 63, 130, 66, 67, 68, 34, 69, 39, 37, 38, 131, 132, 133, 134, 135, 136, 137, 138, 157, 158, 159, 160, 161, 162, 163, 164, 165, 166, 167, 168, 169, 170, 171, 172, 153, 154, 155, 156] (by decide +kernel) (by decide +kernel)
set_option maxRecDepth 20000 in
theorem gX6_growPays_X4_payAll : GoodIn wsX6_growPays (wsV RX6 97 RX4 yX4_payAll wsX4_payAll) := goodIn_app (goodIn_of _ (by decide +kernel)) ggX6_growPays_X4_payAll
theorem dX6_growPays_0 : decode cX6_growPays 0 = .ok (.aload_n 0, 1) := by decide +kernel
theorem dX6_growPays_1 : decode cX6_growPays 1 = .ok (.aload_n 1, 1) := by decide +kernel
theorem dX6_growPays_2 : decode cX6_growPays 2 = .ok (.aload_n 2, 1) := by decide +kernel
theorem dX6_growPays_3 : decode cX6_growPays 3 = .ok (.invokevirtual 89, 3) := by decide +kernel
theorem dX6_growPays_6 : decode cX6_growPays 6 = .ok (.iconst 0, 1) := by decide +kernel
theorem dX6_growPays_7 : decode cX6_growPays 7 = .ok (.istore_n 3, 1) := by decide +kernel
theorem dX6_growPays_8 : decode cX6_growPays 8 = .ok (.iload_n 3, 1) := by decide +kernel
theorem dX6_growPays_9 : decode cX6_growPays 9 = .ok (.iconst 1, 1) := by decide +kernel
theorem dX6_growPays_10 : decode cX6_growPays 10 = .ok (.aload_n 0, 1) := by decide +kernel
theorem dX6_growPays_11 : decode cX6_growPays 11 = .ok (.getfield 59, 3) := by decide +kernel
theorem dX6_growPays_14 : decode cX6_growPays 14 = .ok (.ishl, 1) := by decide +kernel
theorem dX6_growPays_15 : decode cX6_growPays 15 = .ok (.if_icmp .ge 37, 3) := by decide +kernel
theorem dX6_growPays_18 : decode cX6_growPays 18 = .ok (.aload_n 0, 1) := by decide +kernel
theorem dX6_growPays_19 : decode cX6_growPays 19 = .ok (.iload_n 3, 1) := by decide +kernel
theorem dX6_growPays_20 : decode cX6_growPays 20 = .ok (.invokevirtual 93, 3) := by decide +kernel
theorem dX6_growPays_23 : decode cX6_growPays 23 = .ok (.aload_n 0, 1) := by decide +kernel
theorem dX6_growPays_24 : decode cX6_growPays 24 = .ok (.getfield 41, 3) := by decide +kernel
theorem dX6_growPays_27 : decode cX6_growPays 27 = .ok (.aload_n 0, 1) := by decide +kernel
theorem dX6_growPays_28 : decode cX6_growPays 28 = .ok (.getfield 48, 3) := by decide +kernel
theorem dX6_growPays_31 : decode cX6_growPays 31 = .ok (.aload_n 0, 1) := by decide +kernel
theorem dX6_growPays_32 : decode cX6_growPays 32 = .ok (.getfield 34, 3) := by decide +kernel
theorem dX6_growPays_35 : decode cX6_growPays 35 = .ok (.aload_n 0, 1) := by decide +kernel
theorem dX6_growPays_36 : decode cX6_growPays 36 = .ok (.getfield 9, 3) := by decide +kernel
theorem dX6_growPays_39 : decode cX6_growPays 39 = .ok (.iload_n 3, 1) := by decide +kernel
theorem dX6_growPays_40 : decode cX6_growPays 40 = .ok (.bipush 6, 2) := by decide +kernel
theorem dX6_growPays_42 : decode cX6_growPays 42 = .ok (.imul, 1) := by decide +kernel
theorem dX6_growPays_43 : decode cX6_growPays 43 = .ok (.invokevirtual 97, 3) := by decide +kernel
theorem dX6_growPays_46 : decode cX6_growPays 46 = .ok (.iinc 3 1, 3) := by decide +kernel
theorem dX6_growPays_49 : decode cX6_growPays 49 = .ok (.goto (-41), 3) := by decide +kernel
theorem dX6_growPays_52 : decode cX6_growPays 52 = .ok (.return_, 1) := by decide +kernel
set_option maxRecDepth 20000 in
theorem ggX6_growPlace_X6_begin : GoodIn wsX6_growPlace wsX6_begin := goodIn_r _ [9, 10, 11, 1, 12, 13, 14, 15, 16, 17, 18, 19, 20, 21, 22, 23, 24, 25, 26, 27, 28, 29, 30, 31, 32, 33, 34, 35, 36, 37, 38, 39, 40, 41, 42, 43, 44, 45, 46, 47, 48, 49, 50, 71, 72, 73, 74, 75, 76, 77, 78, 79, 80, 81, 82, 83, 84, 93, 94, 95, 96, 97, 98, 99, 100, 101, 102, 103, 104] (by decide +kernel) (by decide +kernel)
set_option maxRecDepth 20000 in
theorem gX6_growPlace_X6_begin : GoodIn wsX6_growPlace (wsV RX6 89 RX6 yX6_begin wsX6_begin) := goodIn_app (goodIn_of _ (by decide +kernel)) ggX6_growPlace_X6_begin
set_option maxRecDepth 20000 in
theorem ggX6_growPlace_X6_lookAt : GoodIn wsX6_growPlace wsX6_lookAt := goodIn_r _ [54, 1, 11, 13, 14, 3, 10, 55, 56, 57, 58, 59, 60, 61, 62, 63, 64, 65, 66, 67, 68, 69, 35, 70, 40, 38, 39, 71, 72, 73, 74, 75, 76, 77, 78, 79, 80, 81, 82, 83, 84, 93, 94, 95, 96, 97, 98, 99, 100, 101, 102, 103, 104, 85, 86, 87, 88, 89, 90, 91, 92] (by decide +kernel) (by decide +kernel)
set_option maxRecDepth 20000 in
theorem gX6_growPlace_X6_lookAt : GoodIn wsX6_growPlace (wsV RX6 93 RX6 yX6_lookAt wsX6_lookAt) := goodIn_app (goodIn_of _ (by decide +kernel)) ggX6_growPlace_X6_lookAt
theorem dX6_growPlace_0 : decode cX6_growPlace 0 = .ok (.aload_n 0, 1) := by decide +kernel
theorem dX6_growPlace_1 : decode cX6_growPlace 1 = .ok (.aload_n 1, 1) := by decide +kernel
theorem dX6_growPlace_2 : decode cX6_growPlace 2 = .ok (.aload_n 2, 1) := by decide +kernel
theorem dX6_growPlace_3 : decode cX6_growPlace 3 = .ok (.invokevirtual 89, 3) := by decide +kernel
theorem dX6_growPlace_6 : decode cX6_growPlace 6 = .ok (.iconst 0, 1) := by decide +kernel
theorem dX6_growPlace_7 : decode cX6_growPlace 7 = .ok (.istore 5, 2) := by decide +kernel
theorem dX6_growPlace_9 : decode cX6_growPlace 9 = .ok (.iload 5, 2) := by decide +kernel
theorem dX6_growPlace_11 : decode cX6_growPlace 11 = .ok (.iconst 1, 1) := by decide +kernel
theorem dX6_growPlace_12 : decode cX6_growPlace 12 = .ok (.aload_n 0, 1) := by decide +kernel
theorem dX6_growPlace_13 : decode cX6_growPlace 13 = .ok (.getfield 59, 3) := by decide +kernel
theorem dX6_growPlace_16 : decode cX6_growPlace 16 = .ok (.ishl, 1) := by decide +kernel
theorem dX6_growPlace_17 : decode cX6_growPlace 17 = .ok (.if_icmp .ge 46, 3) := by decide +kernel
theorem dX6_growPlace_20 : decode cX6_growPlace 20 = .ok (.aload_n 0, 1) := by decide +kernel
theorem dX6_growPlace_21 : decode cX6_growPlace 21 = .ok (.iload 5, 2) := by decide +kernel
theorem dX6_growPlace_23 : decode cX6_growPlace 23 = .ok (.invokevirtual 93, 3) := by decide +kernel
theorem dX6_growPlace_26 : decode cX6_growPlace 26 = .ok (.aload_n 0, 1) := by decide +kernel
theorem dX6_growPlace_27 : decode cX6_growPlace 27 = .ok (.getfield 9, 3) := by decide +kernel
theorem dX6_growPlace_30 : decode cX6_growPlace 30 = .ok (.iload 5, 2) := by decide +kernel
theorem dX6_growPlace_32 : decode cX6_growPlace 32 = .ok (.bipush 6, 2) := by decide +kernel
theorem dX6_growPlace_34 : decode cX6_growPlace 34 = .ok (.imul, 1) := by decide +kernel
theorem dX6_growPlace_35 : decode cX6_growPlace 35 = .ok (.iload_n 3, 1) := by decide +kernel
theorem dX6_growPlace_36 : decode cX6_growPlace 36 = .ok (.iadd, 1) := by decide +kernel
theorem dX6_growPlace_37 : decode cX6_growPlace 37 = .ok (.aload_n 0, 1) := by decide +kernel
theorem dX6_growPlace_38 : decode cX6_growPlace 38 = .ok (.getfield 41, 3) := by decide +kernel
theorem dX6_growPlace_41 : decode cX6_growPlace 41 = .ok (.getfield 101, 3) := by decide +kernel
theorem dX6_growPlace_44 : decode cX6_growPlace 44 = .ok (.iload_n 3, 1) := by decide +kernel
theorem dX6_growPlace_45 : decode cX6_growPlace 45 = .ok (.iaload, 1) := by decide +kernel
theorem dX6_growPlace_46 : decode cX6_growPlace 46 = .ok (.iload 4, 2) := by decide +kernel
theorem dX6_growPlace_48 : decode cX6_growPlace 48 = .ok (.if_icmp .ne 7, 3) := by decide +kernel
theorem dX6_growPlace_51 : decode cX6_growPlace 51 = .ok (.lconst 1, 1) := by decide +kernel
theorem dX6_growPlace_52 : decode cX6_growPlace 52 = .ok (.goto 4, 3) := by decide +kernel
theorem dX6_growPlace_55 : decode cX6_growPlace 55 = .ok (.lconst 0, 1) := by decide +kernel
theorem dX6_growPlace_56 : decode cX6_growPlace 56 = .ok (.lastore, 1) := by decide +kernel
theorem dX6_growPlace_57 : decode cX6_growPlace 57 = .ok (.iinc 5 1, 3) := by decide +kernel
theorem dX6_growPlace_60 : decode cX6_growPlace 60 = .ok (.goto (-51), 3) := by decide +kernel
theorem dX6_growPlace_63 : decode cX6_growPlace 63 = .ok (.return_, 1) := by decide +kernel
set_option maxRecDepth 20000 in
theorem ggX6_reaches_X6_begin : GoodIn wsX6_reaches wsX6_begin := goodIn_r _ [8, 9, 10, 1, 11, 12, 13, 14, 15, 16, 17, 18, 19, 20, 21, 22, 23, 24, 25, 26, 27, 28, 29, 30, 31, 32, 33, 34, 35, 36, 37, 38, 39, 40, 41, 42, 43, 44, 45, 46, 47, 48, 49, 83, 84, 85, 86, 87, 88, 89, 90, 91, 92, 93, 94, 95, 96, 105, 106, 107, 108, 109, 110, 111, 112, 113, 114, 115, 116] (by decide +kernel) (by decide +kernel)
set_option maxRecDepth 20000 in
theorem gX6_reaches_X6_begin : GoodIn wsX6_reaches (wsV RX6 89 RX6 yX6_begin wsX6_begin) := goodIn_app (goodIn_of _ (by decide +kernel)) ggX6_reaches_X6_begin
set_option maxRecDepth 20000 in
theorem ggX6_reaches_X6_lookAt : GoodIn wsX6_reaches wsX6_lookAt := goodIn_r _ [53, 1, 10, 12, 13, 2, 9, 54, 55, 56, 57, 58, 59, 60, 61, 62, 63, 64, 65, 66, 67, 68, 34, 69, 39, 37, 38, 83, 84, 85, 86, 87, 88, 89, 90, 91, 92, 93, 94, 95, 96, 105, 106, 107, 108, 109, 110, 111, 112, 113, 114, 115, 116, 97, 98, 99, 100, 101, 102, 103, 104] (by decide +kernel) (by decide +kernel)
set_option maxRecDepth 20000 in
theorem gX6_reaches_X6_lookAt : GoodIn wsX6_reaches (wsV RX6 93 RX6 yX6_lookAt wsX6_lookAt) := goodIn_app (goodIn_of _ (by decide +kernel)) ggX6_reaches_X6_lookAt
set_option maxRecDepth 20000 in
theorem ggX6_reaches_X6_winsAllOpen : GoodIn wsX6_reaches wsX6_winsAllOpen := goodIn_r _ [73, 1, 10, 13, 74, 75, 76, 34, 77, 37, 38, 78, 79, 80, 81, 36, 82, 67, 68, 69, 39, 83, 84, 85, 86, 87, 88, 89, 90, 91, 92, 93, 94, 95, 96, 105, 106, 107, 108] (by decide +kernel) (by decide +kernel)
set_option maxRecDepth 20000 in
theorem gX6_reaches_X6_winsAllOpen : GoodIn wsX6_reaches (wsV RX6 104 RX6 yX6_winsAllOpen wsX6_winsAllOpen) := goodIn_app (goodIn_of _ (by decide +kernel)) ggX6_reaches_X6_winsAllOpen
theorem dX6_reaches_0 : decode cX6_reaches 0 = .ok (.aload_n 0, 1) := by decide +kernel
theorem dX6_reaches_1 : decode cX6_reaches 1 = .ok (.aload_n 1, 1) := by decide +kernel
theorem dX6_reaches_2 : decode cX6_reaches 2 = .ok (.aload_n 2, 1) := by decide +kernel
theorem dX6_reaches_3 : decode cX6_reaches 3 = .ok (.invokevirtual 89, 3) := by decide +kernel
theorem dX6_reaches_6 : decode cX6_reaches 6 = .ok (.iconst 0, 1) := by decide +kernel
theorem dX6_reaches_7 : decode cX6_reaches 7 = .ok (.istore 5, 2) := by decide +kernel
theorem dX6_reaches_9 : decode cX6_reaches 9 = .ok (.iload 5, 2) := by decide +kernel
theorem dX6_reaches_11 : decode cX6_reaches 11 = .ok (.iconst 1, 1) := by decide +kernel
theorem dX6_reaches_12 : decode cX6_reaches 12 = .ok (.aload_n 0, 1) := by decide +kernel
theorem dX6_reaches_13 : decode cX6_reaches 13 = .ok (.getfield 59, 3) := by decide +kernel
theorem dX6_reaches_16 : decode cX6_reaches 16 = .ok (.ishl, 1) := by decide +kernel
theorem dX6_reaches_17 : decode cX6_reaches 17 = .ok (.if_icmp .ge 39, 3) := by decide +kernel
theorem dX6_reaches_20 : decode cX6_reaches 20 = .ok (.aload_n 0, 1) := by decide +kernel
theorem dX6_reaches_21 : decode cX6_reaches 21 = .ok (.iload 5, 2) := by decide +kernel
theorem dX6_reaches_23 : decode cX6_reaches 23 = .ok (.invokevirtual 93, 3) := by decide +kernel
theorem dX6_reaches_26 : decode cX6_reaches 26 = .ok (.aload_n 0, 1) := by decide +kernel
theorem dX6_reaches_27 : decode cX6_reaches 27 = .ok (.getfield 41, 3) := by decide +kernel
theorem dX6_reaches_30 : decode cX6_reaches 30 = .ok (.getfield 101, 3) := by decide +kernel
theorem dX6_reaches_33 : decode cX6_reaches 33 = .ok (.iload_n 3, 1) := by decide +kernel
theorem dX6_reaches_34 : decode cX6_reaches 34 = .ok (.iaload, 1) := by decide +kernel
theorem dX6_reaches_35 : decode cX6_reaches 35 = .ok (.iload 4, 2) := by decide +kernel
theorem dX6_reaches_37 : decode cX6_reaches 37 = .ok (.if_icmp .gt 13, 3) := by decide +kernel
theorem dX6_reaches_40 : decode cX6_reaches 40 = .ok (.aload_n 0, 1) := by decide +kernel
theorem dX6_reaches_41 : decode cX6_reaches 41 = .ok (.iload_n 3, 1) := by decide +kernel
theorem dX6_reaches_42 : decode cX6_reaches 42 = .ok (.invokevirtual 104, 3) := by decide +kernel
theorem dX6_reaches_45 : decode cX6_reaches 45 = .ok (.ifCond .eq 5, 3) := by decide +kernel
theorem dX6_reaches_48 : decode cX6_reaches 48 = .ok (.iconst 1, 1) := by decide +kernel
theorem dX6_reaches_49 : decode cX6_reaches 49 = .ok (.ireturn, 1) := by decide +kernel
theorem dX6_reaches_50 : decode cX6_reaches 50 = .ok (.iinc 5 1, 3) := by decide +kernel
theorem dX6_reaches_53 : decode cX6_reaches 53 = .ok (.goto (-44), 3) := by decide +kernel
theorem dX6_reaches_56 : decode cX6_reaches 56 = .ok (.iconst 0, 1) := by decide +kernel
theorem dX6_reaches_57 : decode cX6_reaches 57 = .ok (.ireturn, 1) := by decide +kernel
set_option maxRecDepth 20000 in
theorem ggX6_winsAllOpen_X0_isOf : GoodIn wsX6_winsAllOpen wsX0_isOf := goodIn_r _ [8, 9, 10, 11, 12, 13, 7, 14, 15, 35, 36, 37, 38] (by decide +kernel) (by decide +kernel)
set_option maxRecDepth 20000 in
theorem gX6_winsAllOpen_X0_isOf : GoodIn wsX6_winsAllOpen (wsV RX6 108 RX0 yX0_isOf wsX0_isOf) := goodIn_app (goodIn_of _ (by decide +kernel)) ggX6_winsAllOpen_X0_isOf
set_option maxRecDepth 20000 in
theorem ggX6_winsAllOpen_X0_winner : GoodIn wsX6_winsAllOpen wsX0_winner := goodIn_r _ [19, 20, 9, 10, 35, 36, 37, 38] (by decide +kernel) (by decide +kernel)
set_option maxRecDepth 20000 in
theorem gX6_winsAllOpen_X0_winner : GoodIn wsX6_winsAllOpen (wsV RX6 112 RX0 yX0_winner wsX0_winner) := goodIn_app (goodIn_of _ (by decide +kernel)) ggX6_winsAllOpen_X0_winner
theorem dX6_winsAllOpen_0 : decode cX6_winsAllOpen 0 = .ok (.iconst 0, 1) := by decide +kernel
theorem dX6_winsAllOpen_1 : decode cX6_winsAllOpen 1 = .ok (.istore_n 2, 1) := by decide +kernel
theorem dX6_winsAllOpen_2 : decode cX6_winsAllOpen 2 = .ok (.iload_n 2, 1) := by decide +kernel
theorem dX6_winsAllOpen_3 : decode cX6_winsAllOpen 3 = .ok (.aload_n 0, 1) := by decide +kernel
theorem dX6_winsAllOpen_4 : decode cX6_winsAllOpen 4 = .ok (.getfield 59, 3) := by decide +kernel
theorem dX6_winsAllOpen_7 : decode cX6_winsAllOpen 7 = .ok (.if_icmp .ge 45, 3) := by decide +kernel
theorem dX6_winsAllOpen_10 : decode cX6_winsAllOpen 10 = .ok (.aload_n 0, 1) := by decide +kernel
theorem dX6_winsAllOpen_11 : decode cX6_winsAllOpen 11 = .ok (.getfield 34, 3) := by decide +kernel
theorem dX6_winsAllOpen_14 : decode cX6_winsAllOpen 14 = .ok (.aload_n 0, 1) := by decide +kernel
theorem dX6_winsAllOpen_15 : decode cX6_winsAllOpen 15 = .ok (.getfield 21, 3) := by decide +kernel
theorem dX6_winsAllOpen_18 : decode cX6_winsAllOpen 18 = .ok (.iload_n 2, 1) := by decide +kernel
theorem dX6_winsAllOpen_19 : decode cX6_winsAllOpen 19 = .ok (.iaload, 1) := by decide +kernel
theorem dX6_winsAllOpen_20 : decode cX6_winsAllOpen 20 = .ok (.iload_n 1, 1) := by decide +kernel
theorem dX6_winsAllOpen_21 : decode cX6_winsAllOpen 21 = .ok (.invokevirtual 108, 3) := by decide +kernel
theorem dX6_winsAllOpen_24 : decode cX6_winsAllOpen 24 = .ok (.ifCond .eq 22, 3) := by decide +kernel
theorem dX6_winsAllOpen_27 : decode cX6_winsAllOpen 27 = .ok (.aload_n 0, 1) := by decide +kernel
theorem dX6_winsAllOpen_28 : decode cX6_winsAllOpen 28 = .ok (.getfield 34, 3) := by decide +kernel
theorem dX6_winsAllOpen_31 : decode cX6_winsAllOpen 31 = .ok (.aload_n 0, 1) := by decide +kernel
theorem dX6_winsAllOpen_32 : decode cX6_winsAllOpen 32 = .ok (.getfield 21, 3) := by decide +kernel
theorem dX6_winsAllOpen_35 : decode cX6_winsAllOpen 35 = .ok (.iload_n 2, 1) := by decide +kernel
theorem dX6_winsAllOpen_36 : decode cX6_winsAllOpen 36 = .ok (.iaload, 1) := by decide +kernel
theorem dX6_winsAllOpen_37 : decode cX6_winsAllOpen 37 = .ok (.invokevirtual 112, 3) := by decide +kernel
theorem dX6_winsAllOpen_40 : decode cX6_winsAllOpen 40 = .ok (.iload_n 1, 1) := by decide +kernel
theorem dX6_winsAllOpen_41 : decode cX6_winsAllOpen 41 = .ok (.if_icmp .eq 5, 3) := by decide +kernel
theorem dX6_winsAllOpen_44 : decode cX6_winsAllOpen 44 = .ok (.iconst 0, 1) := by decide +kernel
theorem dX6_winsAllOpen_45 : decode cX6_winsAllOpen 45 = .ok (.ireturn, 1) := by decide +kernel
theorem dX6_winsAllOpen_46 : decode cX6_winsAllOpen 46 = .ok (.iinc 2 1, 3) := by decide +kernel
theorem dX6_winsAllOpen_49 : decode cX6_winsAllOpen 49 = .ok (.goto (-47), 3) := by decide +kernel
theorem dX6_winsAllOpen_52 : decode cX6_winsAllOpen 52 = .ok (.iconst 1, 1) := by decide +kernel
theorem dX6_winsAllOpen_53 : decode cX6_winsAllOpen 53 = .ok (.ireturn, 1) := by decide +kernel
theorem dX6_allChances_0 : decode cX6_allChances 0 = .ok (.lconst 1, 1) := by decide +kernel
theorem dX6_allChances_1 : decode cX6_allChances 1 = .ok (.iconst 4, 1) := by decide +kernel
theorem dX6_allChances_2 : decode cX6_allChances 2 = .ok (.aload_n 0, 1) := by decide +kernel
theorem dX6_allChances_3 : decode cX6_allChances 3 = .ok (.getfield 59, 3) := by decide +kernel
theorem dX6_allChances_6 : decode cX6_allChances 6 = .ok (.imul, 1) := by decide +kernel
theorem dX6_allChances_7 : decode cX6_allChances 7 = .ok (.lshl, 1) := by decide +kernel
theorem dX6_allChances_8 : decode cX6_allChances 8 = .ok (.lreturn, 1) := by decide +kernel
set_option maxRecDepth 20000 in
theorem ggX6_scale_X6_allChances : GoodIn wsX6_scale wsX6_allChances := goodIn_r _ [6, 7, 24, 25, 26, 27, 28, 29, 30, 31, 32, 33, 34, 35, 36, 37] (by decide +kernel) (by decide +kernel)
set_option maxRecDepth 20000 in
theorem gX6_scale_X6_allChances : GoodIn wsX6_scale (wsV RX6 116 RX6 yX6_allChances wsX6_allChances) := goodIn_app (goodIn_of _ (by decide +kernel)) ggX6_scale_X6_allChances
set_option maxRecDepth 20000 in
theorem ggX6_scale_X2_payUnit : GoodIn wsX6_scale wsX2_payUnit := goodIn_r _ [12, 13, 14, 15, 16, 17, 18, 19, 20, 21, 11, 22, 23, 38, 39, 40, 41, 42, 43, 44, 45] (by decide +kernel) (by decide +kernel)
set_option maxRecDepth 20000 in
theorem gX6_scale_X2_payUnit : GoodIn wsX6_scale (wsV RX6 120 RX2 yX2_payUnit wsX2_payUnit) := goodIn_app (goodIn_of _ (by decide +kernel)) ggX6_scale_X2_payUnit
theorem dX6_scale_0 : decode cX6_scale 0 = .ok (.aload_n 0, 1) := by decide +kernel
theorem dX6_scale_1 : decode cX6_scale 1 = .ok (.invokevirtual 116, 3) := by decide +kernel
theorem dX6_scale_4 : decode cX6_scale 4 = .ok (.aload_n 0, 1) := by decide +kernel
theorem dX6_scale_5 : decode cX6_scale 5 = .ok (.getfield 48, 3) := by decide +kernel
theorem dX6_scale_8 : decode cX6_scale 8 = .ok (.invokevirtual 120, 3) := by decide +kernel
theorem dX6_scale_11 : decode cX6_scale 11 = .ok (.i2l, 1) := by decide +kernel
theorem dX6_scale_12 : decode cX6_scale 12 = .ok (.lmul, 1) := by decide +kernel
theorem dX6_scale_13 : decode cX6_scale 13 = .ok (.lreturn, 1) := by decide +kernel
theorem dX6_mixed_0 : decode cX6_mixed 0 = .ok (.iload_n 0, 1) := by decide +kernel
theorem dX6_mixed_1 : decode cX6_mixed 1 = .ok (.i2l, 1) := by decide +kernel
theorem dX6_mixed_2 : decode cX6_mixed 2 = .ok (.lload_n 1, 1) := by decide +kernel
theorem dX6_mixed_3 : decode cX6_mixed 3 = .ok (.lmul, 1) := by decide +kernel
theorem dX6_mixed_4 : decode cX6_mixed 4 = .ok (.bipush 16, 2) := by decide +kernel
theorem dX6_mixed_6 : decode cX6_mixed 6 = .ok (.iload_n 0, 1) := by decide +kernel
theorem dX6_mixed_7 : decode cX6_mixed 7 = .ok (.isub, 1) := by decide +kernel
theorem dX6_mixed_8 : decode cX6_mixed 8 = .ok (.i2l, 1) := by decide +kernel
theorem dX6_mixed_9 : decode cX6_mixed 9 = .ok (.lload_n 3, 1) := by decide +kernel
theorem dX6_mixed_10 : decode cX6_mixed 10 = .ok (.lmul, 1) := by decide +kernel
theorem dX6_mixed_11 : decode cX6_mixed 11 = .ok (.ladd, 1) := by decide +kernel
theorem dX6_mixed_12 : decode cX6_mixed 12 = .ok (.lreturn, 1) := by decide +kernel
set_option maxRecDepth 20000 in
theorem ggX6_expected_X6_fold : GoodIn wsX6_expected wsX6_fold := goodIn_r _ [5, 6, 7, 8, 9, 10, 11, 12, 4, 13, 14, 15, 16, 17, 18, 19, 20, 21, 22, 23, 24, 25, 26, 27] (by decide +kernel) (by decide +kernel)
set_option maxRecDepth 20000 in
theorem gX6_expected_X6_fold : GoodIn wsX6_expected (wsV RX6 124 RX6 yX6_fold wsX6_fold) := goodIn_app (goodIn_of _ (by decide +kernel)) ggX6_expected_X6_fold
theorem dX6_expected_0 : decode cX6_expected 0 = .ok (.aload_n 0, 1) := by decide +kernel
theorem dX6_expected_1 : decode cX6_expected 1 = .ok (.iload_n 1, 1) := by decide +kernel
theorem dX6_expected_2 : decode cX6_expected 2 = .ok (.bipush (-4), 2) := by decide +kernel
theorem dX6_expected_4 : decode cX6_expected 4 = .ok (.iconst 2, 1) := by decide +kernel
theorem dX6_expected_5 : decode cX6_expected 5 = .ok (.invokevirtual 124, 3) := by decide +kernel
theorem dX6_expected_8 : decode cX6_expected 8 = .ok (.lreturn, 1) := by decide +kernel
set_option maxRecDepth 20000 in
theorem ggX6_expectedIf_X6_fold : GoodIn wsX6_expectedIf wsX6_fold := goodIn_r _ [7, 8, 9, 10, 11, 12, 13, 14, 6, 15, 16, 17, 18, 19, 20, 21, 22, 23, 24, 25, 26, 27, 28, 29] (by decide +kernel) (by decide +kernel)
set_option maxRecDepth 20000 in
theorem gX6_expectedIf_X6_fold : GoodIn wsX6_expectedIf (wsV RX6 124 RX6 yX6_fold wsX6_fold) := goodIn_app (goodIn_of _ (by decide +kernel)) ggX6_expectedIf_X6_fold
theorem dX6_expectedIf_0 : decode cX6_expectedIf 0 = .ok (.aload_n 0, 1) := by decide +kernel
theorem dX6_expectedIf_1 : decode cX6_expectedIf 1 = .ok (.getfield 34, 3) := by decide +kernel
theorem dX6_expectedIf_4 : decode cX6_expectedIf 4 = .ok (.getfield 72, 3) := by decide +kernel
theorem dX6_expectedIf_7 : decode cX6_expectedIf 7 = .ok (.iload_n 2, 1) := by decide +kernel
theorem dX6_expectedIf_8 : decode cX6_expectedIf 8 = .ok (.iaload, 1) := by decide +kernel
theorem dX6_expectedIf_9 : decode cX6_expectedIf 9 = .ok (.iload_n 1, 1) := by decide +kernel
theorem dX6_expectedIf_10 : decode cX6_expectedIf 10 = .ok (.if_icmp .ne 7, 3) := by decide +kernel
theorem dX6_expectedIf_13 : decode cX6_expectedIf 13 = .ok (.iconst 1, 1) := by decide +kernel
theorem dX6_expectedIf_14 : decode cX6_expectedIf 14 = .ok (.goto 4, 3) := by decide +kernel
theorem dX6_expectedIf_17 : decode cX6_expectedIf 17 = .ok (.iconst 0, 1) := by decide +kernel
theorem dX6_expectedIf_18 : decode cX6_expectedIf 18 = .ok (.iload_n 3, 1) := by decide +kernel
theorem dX6_expectedIf_19 : decode cX6_expectedIf 19 = .ok (.if_icmp .ne 7, 3) := by decide +kernel
theorem dX6_expectedIf_22 : decode cX6_expectedIf 22 = .ok (.iconst 1, 1) := by decide +kernel
theorem dX6_expectedIf_23 : decode cX6_expectedIf 23 = .ok (.goto 4, 3) := by decide +kernel
theorem dX6_expectedIf_26 : decode cX6_expectedIf 26 = .ok (.iconst 0, 1) := by decide +kernel
theorem dX6_expectedIf_27 : decode cX6_expectedIf 27 = .ok (.istore 4, 2) := by decide +kernel
theorem dX6_expectedIf_29 : decode cX6_expectedIf 29 = .ok (.aload_n 0, 1) := by decide +kernel
theorem dX6_expectedIf_30 : decode cX6_expectedIf 30 = .ok (.iload_n 1, 1) := by decide +kernel
theorem dX6_expectedIf_31 : decode cX6_expectedIf 31 = .ok (.iload_n 2, 1) := by decide +kernel
theorem dX6_expectedIf_32 : decode cX6_expectedIf 32 = .ok (.iload 4, 2) := by decide +kernel
theorem dX6_expectedIf_34 : decode cX6_expectedIf 34 = .ok (.ifCond .eq 7, 3) := by decide +kernel
theorem dX6_expectedIf_37 : decode cX6_expectedIf 37 = .ok (.iconst 0, 1) := by decide +kernel
theorem dX6_expectedIf_38 : decode cX6_expectedIf 38 = .ok (.goto 4, 3) := by decide +kernel
theorem dX6_expectedIf_41 : decode cX6_expectedIf 41 = .ok (.iconst 1, 1) := by decide +kernel
theorem dX6_expectedIf_42 : decode cX6_expectedIf 42 = .ok (.invokevirtual 124, 3) := by decide +kernel
theorem dX6_expectedIf_45 : decode cX6_expectedIf 45 = .ok (.lreturn, 1) := by decide +kernel
set_option maxRecDepth 20000 in
theorem ggX6_fold_X6_mixed : GoodIn wsX6_fold wsX6_mixed := goodIn_r _ [9] (by decide +kernel) (by decide +kernel)
set_option maxRecDepth 20000 in
theorem gX6_fold_X6_mixed : GoodIn wsX6_fold (va_wsS RX6 128 yX6_mixed wsX6_mixed) := goodIn_app (goodIn_of _ (by decide +kernel)) ggX6_fold_X6_mixed
theorem dX6_fold_0 : decode cX6_fold 0 = .ok (.iconst 0, 1) := by decide +kernel
theorem dX6_fold_1 : decode cX6_fold 1 = .ok (.istore 4, 2) := by decide +kernel
theorem dX6_fold_3 : decode cX6_fold 3 = .ok (.iload 4, 2) := by decide +kernel
theorem dX6_fold_5 : decode cX6_fold 5 = .ok (.iconst 1, 1) := by decide +kernel
theorem dX6_fold_6 : decode cX6_fold 6 = .ok (.aload_n 0, 1) := by decide +kernel
theorem dX6_fold_7 : decode cX6_fold 7 = .ok (.getfield 59, 3) := by decide +kernel
theorem dX6_fold_10 : decode cX6_fold 10 = .ok (.ishl, 1) := by decide +kernel
theorem dX6_fold_11 : decode cX6_fold 11 = .ok (.if_icmp .ge 28, 3) := by decide +kernel
theorem dX6_fold_14 : decode cX6_fold 14 = .ok (.aload_n 0, 1) := by decide +kernel
theorem dX6_fold_15 : decode cX6_fold 15 = .ok (.getfield 15, 3) := by decide +kernel
theorem dX6_fold_18 : decode cX6_fold 18 = .ok (.iload 4, 2) := by decide +kernel
theorem dX6_fold_20 : decode cX6_fold 20 = .ok (.aload_n 0, 1) := by decide +kernel
theorem dX6_fold_21 : decode cX6_fold 21 = .ok (.getfield 9, 3) := by decide +kernel
theorem dX6_fold_24 : decode cX6_fold 24 = .ok (.iload 4, 2) := by decide +kernel
theorem dX6_fold_26 : decode cX6_fold 26 = .ok (.bipush 6, 2) := by decide +kernel
theorem dX6_fold_28 : decode cX6_fold 28 = .ok (.imul, 1) := by decide +kernel
theorem dX6_fold_29 : decode cX6_fold 29 = .ok (.iload_n 1, 1) := by decide +kernel
theorem dX6_fold_30 : decode cX6_fold 30 = .ok (.iadd, 1) := by decide +kernel
theorem dX6_fold_31 : decode cX6_fold 31 = .ok (.laload, 1) := by decide +kernel
theorem dX6_fold_32 : decode cX6_fold 32 = .ok (.lastore, 1) := by decide +kernel
theorem dX6_fold_33 : decode cX6_fold 33 = .ok (.iinc 4 1, 3) := by decide +kernel
theorem dX6_fold_36 : decode cX6_fold 36 = .ok (.goto (-33), 3) := by decide +kernel
theorem dX6_fold_39 : decode cX6_fold 39 = .ok (.aload_n 0, 1) := by decide +kernel
theorem dX6_fold_40 : decode cX6_fold 40 = .ok (.getfield 59, 3) := by decide +kernel
theorem dX6_fold_43 : decode cX6_fold 43 = .ok (.iconst 1, 1) := by decide +kernel
theorem dX6_fold_44 : decode cX6_fold 44 = .ok (.isub, 1) := by decide +kernel
theorem dX6_fold_45 : decode cX6_fold 45 = .ok (.istore 4, 2) := by decide +kernel
theorem dX6_fold_47 : decode cX6_fold 47 = .ok (.iload 4, 2) := by decide +kernel
theorem dX6_fold_49 : decode cX6_fold 49 = .ok (.ifCond .lt 91, 3) := by decide +kernel
theorem dX6_fold_52 : decode cX6_fold 52 = .ok (.aload_n 0, 1) := by decide +kernel
theorem dX6_fold_53 : decode cX6_fold 53 = .ok (.getfield 25, 3) := by decide +kernel
theorem dX6_fold_56 : decode cX6_fold 56 = .ok (.iload 4, 2) := by decide +kernel
theorem dX6_fold_58 : decode cX6_fold 58 = .ok (.iaload, 1) := by decide +kernel
theorem dX6_fold_59 : decode cX6_fold 59 = .ok (.istore 5, 2) := by decide +kernel
theorem dX6_fold_61 : decode cX6_fold 61 = .ok (.aload_n 0, 1) := by decide +kernel
theorem dX6_fold_62 : decode cX6_fold 62 = .ok (.getfield 21, 3) := by decide +kernel
theorem dX6_fold_65 : decode cX6_fold 65 = .ok (.iload 4, 2) := by decide +kernel
theorem dX6_fold_67 : decode cX6_fold 67 = .ok (.iaload, 1) := by decide +kernel
theorem dX6_fold_68 : decode cX6_fold 68 = .ok (.iload_n 2, 1) := by decide +kernel
theorem dX6_fold_69 : decode cX6_fold 69 = .ok (.if_icmp .ne 15, 3) := by decide +kernel
theorem dX6_fold_72 : decode cX6_fold 72 = .ok (.iload_n 3, 1) := by decide +kernel
theorem dX6_fold_73 : decode cX6_fold 73 = .ok (.ifCond .ne 8, 3) := by decide +kernel
theorem dX6_fold_76 : decode cX6_fold 76 = .ok (.bipush 16, 2) := by decide +kernel
theorem dX6_fold_78 : decode cX6_fold 78 = .ok (.goto 4, 3) := by decide +kernel
theorem dX6_fold_81 : decode cX6_fold 81 = .ok (.iconst 0, 1) := by decide +kernel
theorem dX6_fold_82 : decode cX6_fold 82 = .ok (.istore 5, 2) := by decide +kernel
theorem dX6_fold_84 : decode cX6_fold 84 = .ok (.iconst 0, 1) := by decide +kernel
theorem dX6_fold_85 : decode cX6_fold 85 = .ok (.istore 6, 2) := by decide +kernel
theorem dX6_fold_87 : decode cX6_fold 87 = .ok (.iload 6, 2) := by decide +kernel
theorem dX6_fold_89 : decode cX6_fold 89 = .ok (.iconst 1, 1) := by decide +kernel
theorem dX6_fold_90 : decode cX6_fold 90 = .ok (.iload 4, 2) := by decide +kernel
theorem dX6_fold_92 : decode cX6_fold 92 = .ok (.ishl, 1) := by decide +kernel
theorem dX6_fold_93 : decode cX6_fold 93 = .ok (.if_icmp .ge 41, 3) := by decide +kernel
theorem dX6_fold_96 : decode cX6_fold 96 = .ok (.aload_n 0, 1) := by decide +kernel
theorem dX6_fold_97 : decode cX6_fold 97 = .ok (.getfield 15, 3) := by decide +kernel
theorem dX6_fold_100 : decode cX6_fold 100 = .ok (.iload 6, 2) := by decide +kernel
theorem dX6_fold_102 : decode cX6_fold 102 = .ok (.iload 5, 2) := by decide +kernel
theorem dX6_fold_104 : decode cX6_fold 104 = .ok (.aload_n 0, 1) := by decide +kernel
theorem dX6_fold_105 : decode cX6_fold 105 = .ok (.getfield 15, 3) := by decide +kernel
theorem dX6_fold_108 : decode cX6_fold 108 = .ok (.iconst 2, 1) := by decide +kernel
theorem dX6_fold_109 : decode cX6_fold 109 = .ok (.iload 6, 2) := by decide +kernel
theorem dX6_fold_111 : decode cX6_fold 111 = .ok (.imul, 1) := by decide +kernel
theorem dX6_fold_112 : decode cX6_fold 112 = .ok (.laload, 1) := by decide +kernel
theorem dX6_fold_113 : decode cX6_fold 113 = .ok (.aload_n 0, 1) := by decide +kernel
theorem dX6_fold_114 : decode cX6_fold 114 = .ok (.getfield 15, 3) := by decide +kernel
theorem dX6_fold_117 : decode cX6_fold 117 = .ok (.iconst 2, 1) := by decide +kernel
theorem dX6_fold_118 : decode cX6_fold 118 = .ok (.iload 6, 2) := by decide +kernel
theorem dX6_fold_120 : decode cX6_fold 120 = .ok (.imul, 1) := by decide +kernel
theorem dX6_fold_121 : decode cX6_fold 121 = .ok (.iconst 1, 1) := by decide +kernel
theorem dX6_fold_122 : decode cX6_fold 122 = .ok (.iadd, 1) := by decide +kernel
theorem dX6_fold_123 : decode cX6_fold 123 = .ok (.laload, 1) := by decide +kernel
theorem dX6_fold_124 : decode cX6_fold 124 = .ok (.invokestatic 128, 3) := by decide +kernel
theorem dX6_fold_127 : decode cX6_fold 127 = .ok (.lastore, 1) := by decide +kernel
theorem dX6_fold_128 : decode cX6_fold 128 = .ok (.iinc 6 1, 3) := by decide +kernel
theorem dX6_fold_131 : decode cX6_fold 131 = .ok (.goto (-44), 3) := by decide +kernel
theorem dX6_fold_134 : decode cX6_fold 134 = .ok (.iinc 4 (-1), 3) := by decide +kernel
theorem dX6_fold_137 : decode cX6_fold 137 = .ok (.goto (-90), 3) := by decide +kernel
theorem dX6_fold_140 : decode cX6_fold 140 = .ok (.aload_n 0, 1) := by decide +kernel
theorem dX6_fold_141 : decode cX6_fold 141 = .ok (.getfield 15, 3) := by decide +kernel
theorem dX6_fold_144 : decode cX6_fold 144 = .ok (.iconst 0, 1) := by decide +kernel
theorem dX6_fold_145 : decode cX6_fold 145 = .ok (.laload, 1) := by decide +kernel
theorem dX6_fold_146 : decode cX6_fold 146 = .ok (.lreturn, 1) := by decide +kernel
set_option maxRecDepth 20000 in
theorem ggX6_wantsToLose_X6_expectedIf : GoodIn wsX6_wantsToLose wsX6_expectedIf := goodIn_r _ [5, 6, 7, 8, 9, 10, 4, 11, 12, 13, 14, 15, 16, 17, 18, 19, 20, 21, 22, 23, 24, 25, 26, 27, 28, 29, 30, 31, 32, 33, 34, 35, 36, 37] (by decide +kernel) (by decide +kernel)
set_option maxRecDepth 20000 in
theorem gX6_wantsToLose_X6_expectedIf : GoodIn wsX6_wantsToLose (wsV RX6 132 RX6 yX6_expectedIf wsX6_expectedIf) := goodIn_app (goodIn_of _ (by decide +kernel)) ggX6_wantsToLose_X6_expectedIf
theorem dX6_wantsToLose_0 : decode cX6_wantsToLose 0 = .ok (.aload_n 0, 1) := by decide +kernel
theorem dX6_wantsToLose_1 : decode cX6_wantsToLose 1 = .ok (.iload_n 1, 1) := by decide +kernel
theorem dX6_wantsToLose_2 : decode cX6_wantsToLose 2 = .ok (.iload_n 2, 1) := by decide +kernel
theorem dX6_wantsToLose_3 : decode cX6_wantsToLose 3 = .ok (.iconst 0, 1) := by decide +kernel
theorem dX6_wantsToLose_4 : decode cX6_wantsToLose 4 = .ok (.invokevirtual 132, 3) := by decide +kernel
theorem dX6_wantsToLose_7 : decode cX6_wantsToLose 7 = .ok (.aload_n 0, 1) := by decide +kernel
theorem dX6_wantsToLose_8 : decode cX6_wantsToLose 8 = .ok (.iload_n 1, 1) := by decide +kernel
theorem dX6_wantsToLose_9 : decode cX6_wantsToLose 9 = .ok (.iload_n 2, 1) := by decide +kernel
theorem dX6_wantsToLose_10 : decode cX6_wantsToLose 10 = .ok (.iconst 1, 1) := by decide +kernel
theorem dX6_wantsToLose_11 : decode cX6_wantsToLose 11 = .ok (.invokevirtual 132, 3) := by decide +kernel
theorem dX6_wantsToLose_14 : decode cX6_wantsToLose 14 = .ok (.lcmp, 1) := by decide +kernel
theorem dX6_wantsToLose_15 : decode cX6_wantsToLose 15 = .ok (.ifCond .le 7, 3) := by decide +kernel
theorem dX6_wantsToLose_18 : decode cX6_wantsToLose 18 = .ok (.iconst 1, 1) := by decide +kernel
theorem dX6_wantsToLose_19 : decode cX6_wantsToLose 19 = .ok (.goto 4, 3) := by decide +kernel
theorem dX6_wantsToLose_22 : decode cX6_wantsToLose 22 = .ok (.iconst 0, 1) := by decide +kernel
theorem dX6_wantsToLose_23 : decode cX6_wantsToLose 23 = .ok (.ireturn, 1) := by decide +kernel
set_option maxRecDepth 20000 in
theorem ggX6_losers_X6_wantsToLose : GoodIn wsX6_losers wsX6_wantsToLose := goodIn_r _ [8, 9, 10, 11, 7, 12, 1, 2, 13, 14, 15, 16, 17, 18, 19, 20, 21, 22, 23, 24, 25, 26, 27, 28, 29, 30, 31, 32, 33, 34, 35, 36, 37, 38, 39, 40, 41, 42] (by decide +kernel) (by decide +kernel)
set_option maxRecDepth 20000 in
theorem gX6_losers_X6_wantsToLose : GoodIn wsX6_losers (wsV RX6 136 RX6 yX6_wantsToLose wsX6_wantsToLose) := goodIn_app (goodIn_of _ (by decide +kernel)) ggX6_losers_X6_wantsToLose
theorem dX6_losers_0 : decode cX6_losers 0 = .ok (.aload_n 0, 1) := by decide +kernel
theorem dX6_losers_1 : decode cX6_losers 1 = .ok (.aload_n 0, 1) := by decide +kernel
theorem dX6_losers_2 : decode cX6_losers 2 = .ok (.getfield 34, 3) := by decide +kernel
theorem dX6_losers_5 : decode cX6_losers 5 = .ok (.getfield 72, 3) := by decide +kernel
theorem dX6_losers_8 : decode cX6_losers 8 = .ok (.iload_n 1, 1) := by decide +kernel
theorem dX6_losers_9 : decode cX6_losers 9 = .ok (.iaload, 1) := by decide +kernel
theorem dX6_losers_10 : decode cX6_losers 10 = .ok (.iload_n 1, 1) := by decide +kernel
theorem dX6_losers_11 : decode cX6_losers 11 = .ok (.invokevirtual 136, 3) := by decide +kernel
theorem dX6_losers_14 : decode cX6_losers 14 = .ok (.ifCond .eq 7, 3) := by decide +kernel
theorem dX6_losers_17 : decode cX6_losers 17 = .ok (.iconst 1, 1) := by decide +kernel
theorem dX6_losers_18 : decode cX6_losers 18 = .ok (.goto 4, 3) := by decide +kernel
theorem dX6_losers_21 : decode cX6_losers 21 = .ok (.iconst 0, 1) := by decide +kernel
theorem dX6_losers_22 : decode cX6_losers 22 = .ok (.istore_n 2, 1) := by decide +kernel
theorem dX6_losers_23 : decode cX6_losers 23 = .ok (.aload_n 0, 1) := by decide +kernel
theorem dX6_losers_24 : decode cX6_losers 24 = .ok (.aload_n 0, 1) := by decide +kernel
theorem dX6_losers_25 : decode cX6_losers 25 = .ok (.getfield 34, 3) := by decide +kernel
theorem dX6_losers_28 : decode cX6_losers 28 = .ok (.getfield 75, 3) := by decide +kernel
theorem dX6_losers_31 : decode cX6_losers 31 = .ok (.iload_n 1, 1) := by decide +kernel
theorem dX6_losers_32 : decode cX6_losers 32 = .ok (.iaload, 1) := by decide +kernel
theorem dX6_losers_33 : decode cX6_losers 33 = .ok (.iload_n 1, 1) := by decide +kernel
theorem dX6_losers_34 : decode cX6_losers 34 = .ok (.invokevirtual 136, 3) := by decide +kernel
theorem dX6_losers_37 : decode cX6_losers 37 = .ok (.ifCond .eq 7, 3) := by decide +kernel
theorem dX6_losers_40 : decode cX6_losers 40 = .ok (.iconst 2, 1) := by decide +kernel
theorem dX6_losers_41 : decode cX6_losers 41 = .ok (.goto 4, 3) := by decide +kernel
theorem dX6_losers_44 : decode cX6_losers 44 = .ok (.iconst 0, 1) := by decide +kernel
theorem dX6_losers_45 : decode cX6_losers 45 = .ok (.istore_n 3, 1) := by decide +kernel
theorem dX6_losers_46 : decode cX6_losers 46 = .ok (.iload_n 2, 1) := by decide +kernel
theorem dX6_losers_47 : decode cX6_losers 47 = .ok (.iload_n 3, 1) := by decide +kernel
theorem dX6_losers_48 : decode cX6_losers 48 = .ok (.iadd, 1) := by decide +kernel
theorem dX6_losers_49 : decode cX6_losers 49 = .ok (.ireturn, 1) := by decide +kernel
set_option maxRecDepth 20000 in
theorem ggX6_firstUnwanted_X0_isOf : GoodIn wsX6_firstUnwanted wsX0_isOf := goodIn_r _ [8, 9, 10, 11, 12, 13, 7, 14, 15, 50, 51, 52, 53] (by decide +kernel) (by decide +kernel)
set_option maxRecDepth 20000 in
theorem gX6_firstUnwanted_X0_isOf : GoodIn wsX6_firstUnwanted (wsV RX6 108 RX0 yX0_isOf wsX0_isOf) := goodIn_app (goodIn_of _ (by decide +kernel)) ggX6_firstUnwanted_X0_isOf
set_option maxRecDepth 20000 in
theorem ggX6_firstUnwanted_X6_wantsToLose : GoodIn wsX6_firstUnwanted wsX6_wantsToLose := goodIn_r _ [20, 21, 22, 23, 19, 24, 2, 25, 26, 27, 28, 29, 1, 30, 31, 32, 3, 33, 34, 35, 36, 37, 38, 39, 40, 41, 42, 43, 44, 45, 46, 47, 48, 49, 50, 51, 52, 53] (by decide +kernel) (by decide +kernel)
set_option maxRecDepth 20000 in
theorem gX6_firstUnwanted_X6_wantsToLose : GoodIn wsX6_firstUnwanted (wsV RX6 136 RX6 yX6_wantsToLose wsX6_wantsToLose) := goodIn_app (goodIn_of _ (by decide +kernel)) ggX6_firstUnwanted_X6_wantsToLose
theorem dX6_firstUnwanted_0 : decode cX6_firstUnwanted 0 = .ok (.iconst 0, 1) := by decide +kernel
theorem dX6_firstUnwanted_1 : decode cX6_firstUnwanted 1 = .ok (.istore_n 2, 1) := by decide +kernel
theorem dX6_firstUnwanted_2 : decode cX6_firstUnwanted 2 = .ok (.iload_n 2, 1) := by decide +kernel
theorem dX6_firstUnwanted_3 : decode cX6_firstUnwanted 3 = .ok (.aload_n 0, 1) := by decide +kernel
theorem dX6_firstUnwanted_4 : decode cX6_firstUnwanted 4 = .ok (.getfield 59, 3) := by decide +kernel
theorem dX6_firstUnwanted_7 : decode cX6_firstUnwanted 7 = .ok (.if_icmp .ge 47, 3) := by decide +kernel
theorem dX6_firstUnwanted_10 : decode cX6_firstUnwanted 10 = .ok (.aload_n 0, 1) := by decide +kernel
theorem dX6_firstUnwanted_11 : decode cX6_firstUnwanted 11 = .ok (.getfield 34, 3) := by decide +kernel
theorem dX6_firstUnwanted_14 : decode cX6_firstUnwanted 14 = .ok (.aload_n 0, 1) := by decide +kernel
theorem dX6_firstUnwanted_15 : decode cX6_firstUnwanted 15 = .ok (.getfield 21, 3) := by decide +kernel
theorem dX6_firstUnwanted_18 : decode cX6_firstUnwanted 18 = .ok (.iload_n 2, 1) := by decide +kernel
theorem dX6_firstUnwanted_19 : decode cX6_firstUnwanted 19 = .ok (.iaload, 1) := by decide +kernel
theorem dX6_firstUnwanted_20 : decode cX6_firstUnwanted 20 = .ok (.iload_n 1, 1) := by decide +kernel
theorem dX6_firstUnwanted_21 : decode cX6_firstUnwanted 21 = .ok (.invokevirtual 108, 3) := by decide +kernel
theorem dX6_firstUnwanted_24 : decode cX6_firstUnwanted 24 = .ok (.ifCond .eq 24, 3) := by decide +kernel
theorem dX6_firstUnwanted_27 : decode cX6_firstUnwanted 27 = .ok (.aload_n 0, 1) := by decide +kernel
theorem dX6_firstUnwanted_28 : decode cX6_firstUnwanted 28 = .ok (.iload_n 1, 1) := by decide +kernel
theorem dX6_firstUnwanted_29 : decode cX6_firstUnwanted 29 = .ok (.aload_n 0, 1) := by decide +kernel
theorem dX6_firstUnwanted_30 : decode cX6_firstUnwanted 30 = .ok (.getfield 21, 3) := by decide +kernel
theorem dX6_firstUnwanted_33 : decode cX6_firstUnwanted 33 = .ok (.iload_n 2, 1) := by decide +kernel
theorem dX6_firstUnwanted_34 : decode cX6_firstUnwanted 34 = .ok (.iaload, 1) := by decide +kernel
theorem dX6_firstUnwanted_35 : decode cX6_firstUnwanted 35 = .ok (.invokevirtual 136, 3) := by decide +kernel
theorem dX6_firstUnwanted_38 : decode cX6_firstUnwanted 38 = .ok (.ifCond .eq 10, 3) := by decide +kernel
theorem dX6_firstUnwanted_41 : decode cX6_firstUnwanted 41 = .ok (.aload_n 0, 1) := by decide +kernel
theorem dX6_firstUnwanted_42 : decode cX6_firstUnwanted 42 = .ok (.getfield 21, 3) := by decide +kernel
theorem dX6_firstUnwanted_45 : decode cX6_firstUnwanted 45 = .ok (.iload_n 2, 1) := by decide +kernel
theorem dX6_firstUnwanted_46 : decode cX6_firstUnwanted 46 = .ok (.iaload, 1) := by decide +kernel
theorem dX6_firstUnwanted_47 : decode cX6_firstUnwanted 47 = .ok (.ireturn, 1) := by decide +kernel
theorem dX6_firstUnwanted_48 : decode cX6_firstUnwanted 48 = .ok (.iinc 2 1, 3) := by decide +kernel
theorem dX6_firstUnwanted_51 : decode cX6_firstUnwanted 51 = .ok (.goto (-49), 3) := by decide +kernel
theorem dX6_firstUnwanted_54 : decode cX6_firstUnwanted 54 = .ok (.bipush (-4), 2) := by decide +kernel
theorem dX6_firstUnwanted_56 : decode cX6_firstUnwanted 56 = .ok (.ireturn, 1) := by decide +kernel
set_option maxRecDepth 20000 in
theorem ggX6_firstUnwantedByBoth_X6_losers : GoodIn wsX6_firstUnwantedByBoth wsX6_losers := goodIn_r _ [7, 8, 9, 10, 11, 12, 13, 6, 14, 15, 16, 17, 18, 19, 20, 21, 22, 1, 23, 24, 25, 2, 26, 27, 28, 29, 30, 31, 32, 33, 34, 35, 36, 37, 38, 39, 40, 41, 42, 43, 44, 45, 46] (by decide +kernel) (by decide +kernel)
set_option maxRecDepth 20000 in
theorem gX6_firstUnwantedByBoth_X6_losers : GoodIn wsX6_firstUnwantedByBoth (wsV RX6 139 RX6 yX6_losers wsX6_losers) := goodIn_app (goodIn_of _ (by decide +kernel)) ggX6_firstUnwantedByBoth_X6_losers
theorem dX6_firstUnwantedByBoth_0 : decode cX6_firstUnwantedByBoth 0 = .ok (.iconst 0, 1) := by decide +kernel
theorem dX6_firstUnwantedByBoth_1 : decode cX6_firstUnwantedByBoth 1 = .ok (.istore_n 1, 1) := by decide +kernel
theorem dX6_firstUnwantedByBoth_2 : decode cX6_firstUnwantedByBoth 2 = .ok (.iload_n 1, 1) := by decide +kernel
theorem dX6_firstUnwantedByBoth_3 : decode cX6_firstUnwantedByBoth 3 = .ok (.aload_n 0, 1) := by decide +kernel
theorem dX6_firstUnwantedByBoth_4 : decode cX6_firstUnwantedByBoth 4 = .ok (.getfield 59, 3) := by decide +kernel
theorem dX6_firstUnwantedByBoth_7 : decode cX6_firstUnwantedByBoth 7 = .ok (.if_icmp .ge 30, 3) := by decide +kernel
theorem dX6_firstUnwantedByBoth_10 : decode cX6_firstUnwantedByBoth 10 = .ok (.aload_n 0, 1) := by decide +kernel
theorem dX6_firstUnwantedByBoth_11 : decode cX6_firstUnwantedByBoth 11 = .ok (.aload_n 0, 1) := by decide +kernel
theorem dX6_firstUnwantedByBoth_12 : decode cX6_firstUnwantedByBoth 12 = .ok (.getfield 21, 3) := by decide +kernel
theorem dX6_firstUnwantedByBoth_15 : decode cX6_firstUnwantedByBoth 15 = .ok (.iload_n 1, 1) := by decide +kernel
theorem dX6_firstUnwantedByBoth_16 : decode cX6_firstUnwantedByBoth 16 = .ok (.iaload, 1) := by decide +kernel
theorem dX6_firstUnwantedByBoth_17 : decode cX6_firstUnwantedByBoth 17 = .ok (.invokevirtual 139, 3) := by decide +kernel
theorem dX6_firstUnwantedByBoth_20 : decode cX6_firstUnwantedByBoth 20 = .ok (.iconst 3, 1) := by decide +kernel
theorem dX6_firstUnwantedByBoth_21 : decode cX6_firstUnwantedByBoth 21 = .ok (.if_icmp .ne 10, 3) := by decide +kernel
theorem dX6_firstUnwantedByBoth_24 : decode cX6_firstUnwantedByBoth 24 = .ok (.aload_n 0, 1) := by decide +kernel
theorem dX6_firstUnwantedByBoth_25 : decode cX6_firstUnwantedByBoth 25 = .ok (.getfield 21, 3) := by decide +kernel
theorem dX6_firstUnwantedByBoth_28 : decode cX6_firstUnwantedByBoth 28 = .ok (.iload_n 1, 1) := by decide +kernel
theorem dX6_firstUnwantedByBoth_29 : decode cX6_firstUnwantedByBoth 29 = .ok (.iaload, 1) := by decide +kernel
theorem dX6_firstUnwantedByBoth_30 : decode cX6_firstUnwantedByBoth 30 = .ok (.ireturn, 1) := by decide +kernel
theorem dX6_firstUnwantedByBoth_31 : decode cX6_firstUnwantedByBoth 31 = .ok (.iinc 1 1, 3) := by decide +kernel
theorem dX6_firstUnwantedByBoth_34 : decode cX6_firstUnwantedByBoth 34 = .ok (.goto (-32), 3) := by decide +kernel
theorem dX6_firstUnwantedByBoth_37 : decode cX6_firstUnwantedByBoth 37 = .ok (.bipush (-4), 2) := by decide +kernel
theorem dX6_firstUnwantedByBoth_39 : decode cX6_firstUnwantedByBoth 39 = .ok (.ireturn, 1) := by decide +kernel
set_option maxRecDepth 20000 in
theorem ggX6_howManyUnwanted_X0_isOf : GoodIn wsX6_howManyUnwanted wsX0_isOf := goodIn_r _ [8, 9, 10, 11, 12, 13, 7, 14, 15, 50, 51, 52, 53] (by decide +kernel) (by decide +kernel)
set_option maxRecDepth 20000 in
theorem gX6_howManyUnwanted_X0_isOf : GoodIn wsX6_howManyUnwanted (wsV RX6 108 RX0 yX0_isOf wsX0_isOf) := goodIn_app (goodIn_of _ (by decide +kernel)) ggX6_howManyUnwanted_X0_isOf
set_option maxRecDepth 20000 in
theorem ggX6_howManyUnwanted_X6_wantsToLose : GoodIn wsX6_howManyUnwanted wsX6_wantsToLose := goodIn_r _ [20, 21, 22, 23, 19, 24, 2, 25, 26, 27, 28, 29, 1, 30, 31, 32, 3, 33, 34, 35, 36, 37, 38, 39, 40, 41, 42, 43, 44, 45, 46, 47, 48, 49, 50, 51, 52, 53] (by decide +kernel) (by decide +kernel)
set_option maxRecDepth 20000 in
theorem gX6_howManyUnwanted_X6_wantsToLose : GoodIn wsX6_howManyUnwanted (wsV RX6 136 RX6 yX6_wantsToLose wsX6_wantsToLose) := goodIn_app (goodIn_of _ (by decide +kernel)) ggX6_howManyUnwanted_X6_wantsToLose
theorem dX6_howManyUnwanted_0 : decode cX6_howManyUnwanted 0 = .ok (.iconst 0, 1) := by decide +kernel
theorem dX6_howManyUnwanted_1 : decode cX6_howManyUnwanted 1 = .ok (.istore_n 2, 1) := by decide +kernel
theorem dX6_howManyUnwanted_2 : decode cX6_howManyUnwanted 2 = .ok (.iconst 0, 1) := by decide +kernel
theorem dX6_howManyUnwanted_3 : decode cX6_howManyUnwanted 3 = .ok (.istore_n 3, 1) := by decide +kernel
theorem dX6_howManyUnwanted_4 : decode cX6_howManyUnwanted 4 = .ok (.iload_n 3, 1) := by decide +kernel
theorem dX6_howManyUnwanted_5 : decode cX6_howManyUnwanted 5 = .ok (.aload_n 0, 1) := by decide +kernel
theorem dX6_howManyUnwanted_6 : decode cX6_howManyUnwanted 6 = .ok (.getfield 59, 3) := by decide +kernel
theorem dX6_howManyUnwanted_9 : decode cX6_howManyUnwanted 9 = .ok (.if_icmp .ge 43, 3) := by decide +kernel
theorem dX6_howManyUnwanted_12 : decode cX6_howManyUnwanted 12 = .ok (.aload_n 0, 1) := by decide +kernel
theorem dX6_howManyUnwanted_13 : decode cX6_howManyUnwanted 13 = .ok (.getfield 34, 3) := by decide +kernel
theorem dX6_howManyUnwanted_16 : decode cX6_howManyUnwanted 16 = .ok (.aload_n 0, 1) := by decide +kernel
theorem dX6_howManyUnwanted_17 : decode cX6_howManyUnwanted 17 = .ok (.getfield 21, 3) := by decide +kernel
theorem dX6_howManyUnwanted_20 : decode cX6_howManyUnwanted 20 = .ok (.iload_n 3, 1) := by decide +kernel
theorem dX6_howManyUnwanted_21 : decode cX6_howManyUnwanted 21 = .ok (.iaload, 1) := by decide +kernel
theorem dX6_howManyUnwanted_22 : decode cX6_howManyUnwanted 22 = .ok (.iload_n 1, 1) := by decide +kernel
theorem dX6_howManyUnwanted_23 : decode cX6_howManyUnwanted 23 = .ok (.invokevirtual 108, 3) := by decide +kernel
theorem dX6_howManyUnwanted_26 : decode cX6_howManyUnwanted 26 = .ok (.ifCond .eq 20, 3) := by decide +kernel
theorem dX6_howManyUnwanted_29 : decode cX6_howManyUnwanted 29 = .ok (.aload_n 0, 1) := by decide +kernel
theorem dX6_howManyUnwanted_30 : decode cX6_howManyUnwanted 30 = .ok (.iload_n 1, 1) := by decide +kernel
theorem dX6_howManyUnwanted_31 : decode cX6_howManyUnwanted 31 = .ok (.aload_n 0, 1) := by decide +kernel
theorem dX6_howManyUnwanted_32 : decode cX6_howManyUnwanted 32 = .ok (.getfield 21, 3) := by decide +kernel
theorem dX6_howManyUnwanted_35 : decode cX6_howManyUnwanted 35 = .ok (.iload_n 3, 1) := by decide +kernel
theorem dX6_howManyUnwanted_36 : decode cX6_howManyUnwanted 36 = .ok (.iaload, 1) := by decide +kernel
theorem dX6_howManyUnwanted_37 : decode cX6_howManyUnwanted 37 = .ok (.invokevirtual 136, 3) := by decide +kernel
theorem dX6_howManyUnwanted_40 : decode cX6_howManyUnwanted 40 = .ok (.ifCond .eq 6, 3) := by decide +kernel
theorem dX6_howManyUnwanted_43 : decode cX6_howManyUnwanted 43 = .ok (.iinc 2 1, 3) := by decide +kernel
theorem dX6_howManyUnwanted_46 : decode cX6_howManyUnwanted 46 = .ok (.iinc 3 1, 3) := by decide +kernel
theorem dX6_howManyUnwanted_49 : decode cX6_howManyUnwanted 49 = .ok (.goto (-45), 3) := by decide +kernel
theorem dX6_howManyUnwanted_52 : decode cX6_howManyUnwanted 52 = .ok (.iload_n 2, 1) := by decide +kernel
theorem dX6_howManyUnwanted_53 : decode cX6_howManyUnwanted 53 = .ok (.ireturn, 1) := by decide +kernel
set_option maxRecDepth 20000 in
theorem ggX6_join_X6_mixed : GoodIn wsX6_join wsX6_mixed := goodIn_r _ [7] (by decide +kernel) (by decide +kernel)
set_option maxRecDepth 20000 in
theorem gX6_join_X6_mixed : GoodIn wsX6_join (va_wsS RX6 128 yX6_mixed wsX6_mixed) := goodIn_app (goodIn_of _ (by decide +kernel)) ggX6_join_X6_mixed
theorem dX6_join_0 : decode cX6_join 0 = .ok (.iload_n 1, 1) := by decide +kernel
theorem dX6_join_1 : decode cX6_join 1 = .ok (.bipush 6, 2) := by decide +kernel
theorem dX6_join_3 : decode cX6_join 3 = .ok (.imul, 1) := by decide +kernel
theorem dX6_join_4 : decode cX6_join 4 = .ok (.istore_n 3, 1) := by decide +kernel
theorem dX6_join_5 : decode cX6_join 5 = .ok (.iconst 0, 1) := by decide +kernel
theorem dX6_join_6 : decode cX6_join 6 = .ok (.istore 4, 2) := by decide +kernel
theorem dX6_join_8 : decode cX6_join 8 = .ok (.iload 4, 2) := by decide +kernel
theorem dX6_join_10 : decode cX6_join 10 = .ok (.aload_n 0, 1) := by decide +kernel
theorem dX6_join_11 : decode cX6_join 11 = .ok (.getfield 48, 3) := by decide +kernel
theorem dX6_join_14 : decode cX6_join 14 = .ok (.getfield 82, 3) := by decide +kernel
theorem dX6_join_17 : decode cX6_join 17 = .ok (.if_icmp .ge 47, 3) := by decide +kernel
theorem dX6_join_20 : decode cX6_join 20 = .ok (.aload_n 0, 1) := by decide +kernel
theorem dX6_join_21 : decode cX6_join 21 = .ok (.getfield 9, 3) := by decide +kernel
theorem dX6_join_24 : decode cX6_join 24 = .ok (.iload_n 3, 1) := by decide +kernel
theorem dX6_join_25 : decode cX6_join 25 = .ok (.iload 4, 2) := by decide +kernel
theorem dX6_join_27 : decode cX6_join 27 = .ok (.iadd, 1) := by decide +kernel
theorem dX6_join_28 : decode cX6_join 28 = .ok (.iload_n 2, 1) := by decide +kernel
theorem dX6_join_29 : decode cX6_join 29 = .ok (.aload_n 0, 1) := by decide +kernel
theorem dX6_join_30 : decode cX6_join 30 = .ok (.getfield 9, 3) := by decide +kernel
theorem dX6_join_33 : decode cX6_join 33 = .ok (.iconst 2, 1) := by decide +kernel
theorem dX6_join_34 : decode cX6_join 34 = .ok (.iload_n 3, 1) := by decide +kernel
theorem dX6_join_35 : decode cX6_join 35 = .ok (.imul, 1) := by decide +kernel
theorem dX6_join_36 : decode cX6_join 36 = .ok (.iload 4, 2) := by decide +kernel
theorem dX6_join_38 : decode cX6_join 38 = .ok (.iadd, 1) := by decide +kernel
theorem dX6_join_39 : decode cX6_join 39 = .ok (.laload, 1) := by decide +kernel
theorem dX6_join_40 : decode cX6_join 40 = .ok (.aload_n 0, 1) := by decide +kernel
theorem dX6_join_41 : decode cX6_join 41 = .ok (.getfield 9, 3) := by decide +kernel
theorem dX6_join_44 : decode cX6_join 44 = .ok (.iconst 2, 1) := by decide +kernel
theorem dX6_join_45 : decode cX6_join 45 = .ok (.iload_n 3, 1) := by decide +kernel
theorem dX6_join_46 : decode cX6_join 46 = .ok (.imul, 1) := by decide +kernel
theorem dX6_join_47 : decode cX6_join 47 = .ok (.bipush 6, 2) := by decide +kernel
theorem dX6_join_49 : decode cX6_join 49 = .ok (.iadd, 1) := by decide +kernel
theorem dX6_join_50 : decode cX6_join 50 = .ok (.iload 4, 2) := by decide +kernel
theorem dX6_join_52 : decode cX6_join 52 = .ok (.iadd, 1) := by decide +kernel
theorem dX6_join_53 : decode cX6_join 53 = .ok (.laload, 1) := by decide +kernel
theorem dX6_join_54 : decode cX6_join 54 = .ok (.invokestatic 128, 3) := by decide +kernel
theorem dX6_join_57 : decode cX6_join 57 = .ok (.lastore, 1) := by decide +kernel
theorem dX6_join_58 : decode cX6_join 58 = .ok (.iinc 4 1, 3) := by decide +kernel
theorem dX6_join_61 : decode cX6_join 61 = .ok (.goto (-53), 3) := by decide +kernel
theorem dX6_join_64 : decode cX6_join 64 = .ok (.return_, 1) := by decide +kernel
set_option maxRecDepth 20000 in
theorem ggX6_countBack_X6_losersAt : GoodIn wsX6_countBack wsX6_losersAt := goodIn_r _ [10, 11, 12, 5, 13, 14, 24, 25, 26, 27, 28, 29, 30, 31, 32, 33, 34, 35, 36, 37, 38, 39, 40, 41] (by decide +kernel) (by decide +kernel)
set_option maxRecDepth 20000 in
theorem gX6_countBack_X6_losersAt : GoodIn wsX6_countBack (wsV RX6 148 RX6 yX6_losersAt wsX6_losersAt) := goodIn_app (goodIn_of _ (by decide +kernel)) ggX6_countBack_X6_losersAt
set_option maxRecDepth 20000 in
theorem ggX6_countBack_X6_join : GoodIn wsX6_countBack wsX6_join := goodIn_r _ [18, 19, 20, 14, 21, 22, 9, 23, 24, 25, 26, 27, 28, 29, 30, 31, 32, 33, 34, 35, 36, 37, 42, 43, 44, 45, 46, 47, 48, 49] (by decide +kernel) (by decide +kernel)
set_option maxRecDepth 20000 in
theorem gX6_countBack_X6_join : GoodIn wsX6_countBack (wsV RX6 151 RX6 yX6_join wsX6_join) := goodIn_app (goodIn_of _ (by decide +kernel)) ggX6_countBack_X6_join
theorem dX6_countBack_0 : decode cX6_countBack 0 = .ok (.aload_n 0, 1) := by decide +kernel
theorem dX6_countBack_1 : decode cX6_countBack 1 = .ok (.iconst 0, 1) := by decide +kernel
theorem dX6_countBack_2 : decode cX6_countBack 2 = .ok (.putfield 142, 3) := by decide +kernel
theorem dX6_countBack_5 : decode cX6_countBack 5 = .ok (.aload_n 0, 1) := by decide +kernel
theorem dX6_countBack_6 : decode cX6_countBack 6 = .ok (.bipush (-4), 2) := by decide +kernel
theorem dX6_countBack_8 : decode cX6_countBack 8 = .ok (.putfield 145, 3) := by decide +kernel
theorem dX6_countBack_11 : decode cX6_countBack 11 = .ok (.aload_n 0, 1) := by decide +kernel
theorem dX6_countBack_12 : decode cX6_countBack 12 = .ok (.getfield 59, 3) := by decide +kernel
theorem dX6_countBack_15 : decode cX6_countBack 15 = .ok (.iconst 1, 1) := by decide +kernel
theorem dX6_countBack_16 : decode cX6_countBack 16 = .ok (.isub, 1) := by decide +kernel
theorem dX6_countBack_17 : decode cX6_countBack 17 = .ok (.istore_n 1, 1) := by decide +kernel
theorem dX6_countBack_18 : decode cX6_countBack 18 = .ok (.iload_n 1, 1) := by decide +kernel
theorem dX6_countBack_19 : decode cX6_countBack 19 = .ok (.ifCond .lt 73, 3) := by decide +kernel
theorem dX6_countBack_22 : decode cX6_countBack 22 = .ok (.aload_n 0, 1) := by decide +kernel
theorem dX6_countBack_23 : decode cX6_countBack 23 = .ok (.getfield 142, 3) := by decide +kernel
theorem dX6_countBack_26 : decode cX6_countBack 26 = .ok (.istore_n 2, 1) := by decide +kernel
theorem dX6_countBack_27 : decode cX6_countBack 27 = .ok (.iconst 0, 1) := by decide +kernel
theorem dX6_countBack_28 : decode cX6_countBack 28 = .ok (.istore_n 3, 1) := by decide +kernel
theorem dX6_countBack_29 : decode cX6_countBack 29 = .ok (.iload_n 3, 1) := by decide +kernel
theorem dX6_countBack_30 : decode cX6_countBack 30 = .ok (.iconst 1, 1) := by decide +kernel
theorem dX6_countBack_31 : decode cX6_countBack 31 = .ok (.iload_n 1, 1) := by decide +kernel
theorem dX6_countBack_32 : decode cX6_countBack 32 = .ok (.ishl, 1) := by decide +kernel
theorem dX6_countBack_33 : decode cX6_countBack 33 = .ok (.if_icmp .ge 35, 3) := by decide +kernel
theorem dX6_countBack_36 : decode cX6_countBack 36 = .ok (.aload_n 0, 1) := by decide +kernel
theorem dX6_countBack_37 : decode cX6_countBack 37 = .ok (.dup, 1) := by decide +kernel
theorem dX6_countBack_38 : decode cX6_countBack 38 = .ok (.getfield 142, 3) := by decide +kernel
theorem dX6_countBack_41 : decode cX6_countBack 41 = .ok (.aload_n 0, 1) := by decide +kernel
theorem dX6_countBack_42 : decode cX6_countBack 42 = .ok (.iload_n 1, 1) := by decide +kernel
theorem dX6_countBack_43 : decode cX6_countBack 43 = .ok (.iload_n 3, 1) := by decide +kernel
theorem dX6_countBack_44 : decode cX6_countBack 44 = .ok (.invokevirtual 148, 3) := by decide +kernel
theorem dX6_countBack_47 : decode cX6_countBack 47 = .ok (.iadd, 1) := by decide +kernel
theorem dX6_countBack_48 : decode cX6_countBack 48 = .ok (.putfield 142, 3) := by decide +kernel
theorem dX6_countBack_51 : decode cX6_countBack 51 = .ok (.aload_n 0, 1) := by decide +kernel
theorem dX6_countBack_52 : decode cX6_countBack 52 = .ok (.iload_n 3, 1) := by decide +kernel
theorem dX6_countBack_53 : decode cX6_countBack 53 = .ok (.aload_n 0, 1) := by decide +kernel
theorem dX6_countBack_54 : decode cX6_countBack 54 = .ok (.getfield 25, 3) := by decide +kernel
theorem dX6_countBack_57 : decode cX6_countBack 57 = .ok (.iload_n 1, 1) := by decide +kernel
theorem dX6_countBack_58 : decode cX6_countBack 58 = .ok (.iaload, 1) := by decide +kernel
theorem dX6_countBack_59 : decode cX6_countBack 59 = .ok (.invokevirtual 151, 3) := by decide +kernel
theorem dX6_countBack_62 : decode cX6_countBack 62 = .ok (.iinc 3 1, 3) := by decide +kernel
theorem dX6_countBack_65 : decode cX6_countBack 65 = .ok (.goto (-36), 3) := by decide +kernel
theorem dX6_countBack_68 : decode cX6_countBack 68 = .ok (.aload_n 0, 1) := by decide +kernel
theorem dX6_countBack_69 : decode cX6_countBack 69 = .ok (.getfield 142, 3) := by decide +kernel
theorem dX6_countBack_72 : decode cX6_countBack 72 = .ok (.iload_n 2, 1) := by decide +kernel
theorem dX6_countBack_73 : decode cX6_countBack 73 = .ok (.if_icmp .le 13, 3) := by decide +kernel
theorem dX6_countBack_76 : decode cX6_countBack 76 = .ok (.aload_n 0, 1) := by decide +kernel
theorem dX6_countBack_77 : decode cX6_countBack 77 = .ok (.aload_n 0, 1) := by decide +kernel
theorem dX6_countBack_78 : decode cX6_countBack 78 = .ok (.getfield 21, 3) := by decide +kernel
theorem dX6_countBack_81 : decode cX6_countBack 81 = .ok (.iload_n 1, 1) := by decide +kernel
theorem dX6_countBack_82 : decode cX6_countBack 82 = .ok (.iaload, 1) := by decide +kernel
theorem dX6_countBack_83 : decode cX6_countBack 83 = .ok (.putfield 145, 3) := by decide +kernel
theorem dX6_countBack_86 : decode cX6_countBack 86 = .ok (.iinc 1 (-1), 3) := by decide +kernel
theorem dX6_countBack_89 : decode cX6_countBack 89 = .ok (.goto (-71), 3) := by decide +kernel
theorem dX6_countBack_92 : decode cX6_countBack 92 = .ok (.return_, 1) := by decide +kernel
theorem dX6_losersAt_0 : decode cX6_losersAt 0 = .ok (.aload_n 0, 1) := by decide +kernel
theorem dX6_losersAt_1 : decode cX6_losersAt 1 = .ok (.getfield 34, 3) := by decide +kernel
theorem dX6_losersAt_4 : decode cX6_losersAt 4 = .ok (.getfield 72, 3) := by decide +kernel
theorem dX6_losersAt_7 : decode cX6_losersAt 7 = .ok (.aload_n 0, 1) := by decide +kernel
theorem dX6_losersAt_8 : decode cX6_losersAt 8 = .ok (.getfield 21, 3) := by decide +kernel
theorem dX6_losersAt_11 : decode cX6_losersAt 11 = .ok (.iload_n 1, 1) := by decide +kernel
theorem dX6_losersAt_12 : decode cX6_losersAt 12 = .ok (.iaload, 1) := by decide +kernel
theorem dX6_losersAt_13 : decode cX6_losersAt 13 = .ok (.iaload, 1) := by decide +kernel
theorem dX6_losersAt_14 : decode cX6_losersAt 14 = .ok (.istore_n 3, 1) := by decide +kernel
theorem dX6_losersAt_15 : decode cX6_losersAt 15 = .ok (.aload_n 0, 1) := by decide +kernel
theorem dX6_losersAt_16 : decode cX6_losersAt 16 = .ok (.getfield 34, 3) := by decide +kernel
theorem dX6_losersAt_19 : decode cX6_losersAt 19 = .ok (.getfield 75, 3) := by decide +kernel
theorem dX6_losersAt_22 : decode cX6_losersAt 22 = .ok (.aload_n 0, 1) := by decide +kernel
theorem dX6_losersAt_23 : decode cX6_losersAt 23 = .ok (.getfield 21, 3) := by decide +kernel
theorem dX6_losersAt_26 : decode cX6_losersAt 26 = .ok (.iload_n 1, 1) := by decide +kernel
theorem dX6_losersAt_27 : decode cX6_losersAt 27 = .ok (.iaload, 1) := by decide +kernel
theorem dX6_losersAt_28 : decode cX6_losersAt 28 = .ok (.iaload, 1) := by decide +kernel
theorem dX6_losersAt_29 : decode cX6_losersAt 29 = .ok (.istore 4, 2) := by decide +kernel
theorem dX6_losersAt_31 : decode cX6_losersAt 31 = .ok (.iconst 2, 1) := by decide +kernel
theorem dX6_losersAt_32 : decode cX6_losersAt 32 = .ok (.iload_n 2, 1) := by decide +kernel
theorem dX6_losersAt_33 : decode cX6_losersAt 33 = .ok (.imul, 1) := by decide +kernel
theorem dX6_losersAt_34 : decode cX6_losersAt 34 = .ok (.bipush 6, 2) := by decide +kernel
theorem dX6_losersAt_36 : decode cX6_losersAt 36 = .ok (.imul, 1) := by decide +kernel
theorem dX6_losersAt_37 : decode cX6_losersAt 37 = .ok (.istore 5, 2) := by decide +kernel
theorem dX6_losersAt_39 : decode cX6_losersAt 39 = .ok (.iload 5, 2) := by decide +kernel
theorem dX6_losersAt_41 : decode cX6_losersAt 41 = .ok (.bipush 6, 2) := by decide +kernel
theorem dX6_losersAt_43 : decode cX6_losersAt 43 = .ok (.iadd, 1) := by decide +kernel
theorem dX6_losersAt_44 : decode cX6_losersAt 44 = .ok (.istore 6, 2) := by decide +kernel
theorem dX6_losersAt_46 : decode cX6_losersAt 46 = .ok (.aload_n 0, 1) := by decide +kernel
theorem dX6_losersAt_47 : decode cX6_losersAt 47 = .ok (.getfield 9, 3) := by decide +kernel
theorem dX6_losersAt_50 : decode cX6_losersAt 50 = .ok (.iload 6, 2) := by decide +kernel
theorem dX6_losersAt_52 : decode cX6_losersAt 52 = .ok (.iload_n 3, 1) := by decide +kernel
theorem dX6_losersAt_53 : decode cX6_losersAt 53 = .ok (.iadd, 1) := by decide +kernel
theorem dX6_losersAt_54 : decode cX6_losersAt 54 = .ok (.laload, 1) := by decide +kernel
theorem dX6_losersAt_55 : decode cX6_losersAt 55 = .ok (.aload_n 0, 1) := by decide +kernel
theorem dX6_losersAt_56 : decode cX6_losersAt 56 = .ok (.getfield 9, 3) := by decide +kernel
theorem dX6_losersAt_59 : decode cX6_losersAt 59 = .ok (.iload 5, 2) := by decide +kernel
theorem dX6_losersAt_61 : decode cX6_losersAt 61 = .ok (.iload_n 3, 1) := by decide +kernel
theorem dX6_losersAt_62 : decode cX6_losersAt 62 = .ok (.iadd, 1) := by decide +kernel
theorem dX6_losersAt_63 : decode cX6_losersAt 63 = .ok (.laload, 1) := by decide +kernel
theorem dX6_losersAt_64 : decode cX6_losersAt 64 = .ok (.lcmp, 1) := by decide +kernel
theorem dX6_losersAt_65 : decode cX6_losersAt 65 = .ok (.ifCond .le 7, 3) := by decide +kernel
theorem dX6_losersAt_68 : decode cX6_losersAt 68 = .ok (.iconst 1, 1) := by decide +kernel
theorem dX6_losersAt_69 : decode cX6_losersAt 69 = .ok (.goto 4, 3) := by decide +kernel
theorem dX6_losersAt_72 : decode cX6_losersAt 72 = .ok (.iconst 0, 1) := by decide +kernel
theorem dX6_losersAt_73 : decode cX6_losersAt 73 = .ok (.istore 7, 2) := by decide +kernel
theorem dX6_losersAt_75 : decode cX6_losersAt 75 = .ok (.aload_n 0, 1) := by decide +kernel
theorem dX6_losersAt_76 : decode cX6_losersAt 76 = .ok (.getfield 9, 3) := by decide +kernel
theorem dX6_losersAt_79 : decode cX6_losersAt 79 = .ok (.iload 5, 2) := by decide +kernel
theorem dX6_losersAt_81 : decode cX6_losersAt 81 = .ok (.iload 4, 2) := by decide +kernel
theorem dX6_losersAt_83 : decode cX6_losersAt 83 = .ok (.iadd, 1) := by decide +kernel
theorem dX6_losersAt_84 : decode cX6_losersAt 84 = .ok (.laload, 1) := by decide +kernel
theorem dX6_losersAt_85 : decode cX6_losersAt 85 = .ok (.aload_n 0, 1) := by decide +kernel
theorem dX6_losersAt_86 : decode cX6_losersAt 86 = .ok (.getfield 9, 3) := by decide +kernel
theorem dX6_losersAt_89 : decode cX6_losersAt 89 = .ok (.iload 6, 2) := by decide +kernel
theorem dX6_losersAt_91 : decode cX6_losersAt 91 = .ok (.iload 4, 2) := by decide +kernel
theorem dX6_losersAt_93 : decode cX6_losersAt 93 = .ok (.iadd, 1) := by decide +kernel
theorem dX6_losersAt_94 : decode cX6_losersAt 94 = .ok (.laload, 1) := by decide +kernel
theorem dX6_losersAt_95 : decode cX6_losersAt 95 = .ok (.lcmp, 1) := by decide +kernel
theorem dX6_losersAt_96 : decode cX6_losersAt 96 = .ok (.ifCond .le 10, 3) := by decide +kernel
theorem dX6_losersAt_99 : decode cX6_losersAt 99 = .ok (.iload 7, 2) := by decide +kernel
theorem dX6_losersAt_101 : decode cX6_losersAt 101 = .ok (.iconst 1, 1) := by decide +kernel
theorem dX6_losersAt_102 : decode cX6_losersAt 102 = .ok (.iadd, 1) := by decide +kernel
theorem dX6_losersAt_103 : decode cX6_losersAt 103 = .ok (.goto 5, 3) := by decide +kernel
theorem dX6_losersAt_106 : decode cX6_losersAt 106 = .ok (.iload 7, 2) := by decide +kernel
theorem dX6_losersAt_108 : decode cX6_losersAt 108 = .ok (.ireturn, 1) := by decide +kernel
set_option maxRecDepth 20000 in
theorem ggX6_playBack_X6_weighPairs : GoodIn wsX6_playBack wsX6_weighPairs := goodIn_r _ [12, 4, 13, 14, 15, 16, 17, 2, 18, 19, 20, 21, 22, 23, 24, 25, 26, 27, 28, 29, 46, 47, 48, 49, 50, 51, 52, 53, 54, 55, 56, 57, 58, 59, 60, 61, 62, 63, 64, 65, 66, 67, 68, 69, 70, 71] (by decide +kernel) (by decide +kernel)
set_option maxRecDepth 20000 in
theorem gX6_playBack_X6_weighPairs : GoodIn wsX6_playBack (wsV RX6 155 RX6 yX6_weighPairs wsX6_weighPairs) := goodIn_app (goodIn_of _ (by decide +kernel)) ggX6_playBack_X6_weighPairs
set_option maxRecDepth 20000 in
theorem ggX6_playBack_X6_choosePair : GoodIn wsX6_playBack wsX6_choosePair := goodIn_r _ [33, 3, 34, 14, 15, 16, 17, 35, 36, 37, 11, 38, 7, 2, 39, 40, 41, 46, 47, 48, 49, 50, 51, 52, 53, 54, 55, 56, 57, 58, 59, 68, 69, 70, 71] (by decide +kernel) (by decide +kernel)
set_option maxRecDepth 20000 in
theorem gX6_playBack_X6_choosePair : GoodIn wsX6_playBack (wsV RX6 158 RX6 yX6_choosePair wsX6_choosePair) := goodIn_app (goodIn_of _ (by decide +kernel)) ggX6_playBack_X6_choosePair
set_option maxRecDepth 20000 in
theorem ggX6_playBack_X6_join : GoodIn wsX6_playBack wsX6_join := goodIn_r _ [45, 4, 5, 7, 39, 40, 11, 41, 46, 47, 48, 49, 50, 51, 52, 53, 54, 55, 56, 57, 58, 59, 60, 61, 62, 63, 64, 65, 66, 67] (by decide +kernel) (by decide +kernel)
set_option maxRecDepth 20000 in
theorem gX6_playBack_X6_join : GoodIn wsX6_playBack (wsV RX6 151 RX6 yX6_join wsX6_join) := goodIn_app (goodIn_of _ (by decide +kernel)) ggX6_playBack_X6_join
theorem dX6_playBack_0 : decode cX6_playBack 0 = .ok (.aload_n 0, 1) := by decide +kernel
theorem dX6_playBack_1 : decode cX6_playBack 1 = .ok (.getfield 59, 3) := by decide +kernel
theorem dX6_playBack_4 : decode cX6_playBack 4 = .ok (.iconst 1, 1) := by decide +kernel
theorem dX6_playBack_5 : decode cX6_playBack 5 = .ok (.isub, 1) := by decide +kernel
theorem dX6_playBack_6 : decode cX6_playBack 6 = .ok (.istore_n 1, 1) := by decide +kernel
theorem dX6_playBack_7 : decode cX6_playBack 7 = .ok (.iload_n 1, 1) := by decide +kernel
theorem dX6_playBack_8 : decode cX6_playBack 8 = .ok (.ifCond .lt 49, 3) := by decide +kernel
theorem dX6_playBack_11 : decode cX6_playBack 11 = .ok (.aload_n 0, 1) := by decide +kernel
theorem dX6_playBack_12 : decode cX6_playBack 12 = .ok (.iload_n 1, 1) := by decide +kernel
theorem dX6_playBack_13 : decode cX6_playBack 13 = .ok (.invokevirtual 155, 3) := by decide +kernel
theorem dX6_playBack_16 : decode cX6_playBack 16 = .ok (.iconst 0, 1) := by decide +kernel
theorem dX6_playBack_17 : decode cX6_playBack 17 = .ok (.istore_n 2, 1) := by decide +kernel
theorem dX6_playBack_18 : decode cX6_playBack 18 = .ok (.iload_n 2, 1) := by decide +kernel
theorem dX6_playBack_19 : decode cX6_playBack 19 = .ok (.iconst 1, 1) := by decide +kernel
theorem dX6_playBack_20 : decode cX6_playBack 20 = .ok (.iload_n 1, 1) := by decide +kernel
theorem dX6_playBack_21 : decode cX6_playBack 21 = .ok (.ishl, 1) := by decide +kernel
theorem dX6_playBack_22 : decode cX6_playBack 22 = .ok (.if_icmp .ge 29, 3) := by decide +kernel
theorem dX6_playBack_25 : decode cX6_playBack 25 = .ok (.aload_n 0, 1) := by decide +kernel
theorem dX6_playBack_26 : decode cX6_playBack 26 = .ok (.iload_n 1, 1) := by decide +kernel
theorem dX6_playBack_27 : decode cX6_playBack 27 = .ok (.iload_n 2, 1) := by decide +kernel
theorem dX6_playBack_28 : decode cX6_playBack 28 = .ok (.invokevirtual 158, 3) := by decide +kernel
theorem dX6_playBack_31 : decode cX6_playBack 31 = .ok (.aload_n 0, 1) := by decide +kernel
theorem dX6_playBack_32 : decode cX6_playBack 32 = .ok (.iload_n 2, 1) := by decide +kernel
theorem dX6_playBack_33 : decode cX6_playBack 33 = .ok (.aload_n 0, 1) := by decide +kernel
theorem dX6_playBack_34 : decode cX6_playBack 34 = .ok (.getfield 28, 3) := by decide +kernel
theorem dX6_playBack_37 : decode cX6_playBack 37 = .ok (.aload_n 0, 1) := by decide +kernel
theorem dX6_playBack_38 : decode cX6_playBack 38 = .ok (.getfield 161, 3) := by decide +kernel
theorem dX6_playBack_41 : decode cX6_playBack 41 = .ok (.iaload, 1) := by decide +kernel
theorem dX6_playBack_42 : decode cX6_playBack 42 = .ok (.invokevirtual 151, 3) := by decide +kernel
theorem dX6_playBack_45 : decode cX6_playBack 45 = .ok (.iinc 2 1, 3) := by decide +kernel
theorem dX6_playBack_48 : decode cX6_playBack 48 = .ok (.goto (-30), 3) := by decide +kernel
theorem dX6_playBack_51 : decode cX6_playBack 51 = .ok (.iinc 1 (-1), 3) := by decide +kernel
theorem dX6_playBack_54 : decode cX6_playBack 54 = .ok (.goto (-47), 3) := by decide +kernel
theorem dX6_playBack_57 : decode cX6_playBack 57 = .ok (.iconst 0, 1) := by decide +kernel
theorem dX6_playBack_58 : decode cX6_playBack 58 = .ok (.istore_n 1, 1) := by decide +kernel
theorem dX6_playBack_59 : decode cX6_playBack 59 = .ok (.iload_n 1, 1) := by decide +kernel
theorem dX6_playBack_60 : decode cX6_playBack 60 = .ok (.aload_n 0, 1) := by decide +kernel
theorem dX6_playBack_61 : decode cX6_playBack 61 = .ok (.getfield 48, 3) := by decide +kernel
theorem dX6_playBack_64 : decode cX6_playBack 64 = .ok (.getfield 82, 3) := by decide +kernel
theorem dX6_playBack_67 : decode cX6_playBack 67 = .ok (.if_icmp .ge 21, 3) := by decide +kernel
theorem dX6_playBack_70 : decode cX6_playBack 70 = .ok (.aload_n 0, 1) := by decide +kernel
theorem dX6_playBack_71 : decode cX6_playBack 71 = .ok (.getfield 18, 3) := by decide +kernel
theorem dX6_playBack_74 : decode cX6_playBack 74 = .ok (.iload_n 1, 1) := by decide +kernel
theorem dX6_playBack_75 : decode cX6_playBack 75 = .ok (.aload_n 0, 1) := by decide +kernel
theorem dX6_playBack_76 : decode cX6_playBack 76 = .ok (.getfield 9, 3) := by decide +kernel
theorem dX6_playBack_79 : decode cX6_playBack 79 = .ok (.iload_n 1, 1) := by decide +kernel
theorem dX6_playBack_80 : decode cX6_playBack 80 = .ok (.laload, 1) := by decide +kernel
theorem dX6_playBack_81 : decode cX6_playBack 81 = .ok (.lastore, 1) := by decide +kernel
theorem dX6_playBack_82 : decode cX6_playBack 82 = .ok (.iinc 1 1, 3) := by decide +kernel
theorem dX6_playBack_85 : decode cX6_playBack 85 = .ok (.goto (-26), 3) := by decide +kernel
theorem dX6_playBack_88 : decode cX6_playBack 88 = .ok (.return_, 1) := by decide +kernel
set_option maxRecDepth 20000 in
theorem ggX6_weighPairs_X8_rested : GoodIn wsX6_weighPairs wsX8_rested := goodIn_r _ [10, 11, 12, 13, 14] (by decide +kernel) (by decide +kernel)
set_option maxRecDepth 20000 in
theorem gX6_weighPairs_X8_rested_n164 : GoodIn wsX6_weighPairs (wsX8_rested) := ggX6_weighPairs_X8_rested
set_option maxRecDepth 20000 in
theorem ggX6_weighPairs_X8_chance : GoodIn wsX6_weighPairs wsX8_chance := goodIn_r _ [16, 17, 18, 13, 19, 11, 12, 14] (by decide +kernel) (by decide +kernel)
set_option maxRecDepth 20000 in
theorem gX6_weighPairs_X8_chance_n78 : GoodIn wsX6_weighPairs (wsX8_chance) := ggX6_weighPairs_X8_chance
theorem dX6_weighPairs_0 : decode cX6_weighPairs 0 = .ok (.aload_n 0, 1) := by decide +kernel
theorem dX6_weighPairs_1 : decode cX6_weighPairs 1 = .ok (.getfield 48, 3) := by decide +kernel
theorem dX6_weighPairs_4 : decode cX6_weighPairs 4 = .ok (.getfield 69, 3) := by decide +kernel
theorem dX6_weighPairs_7 : decode cX6_weighPairs 7 = .ok (.aload_n 0, 1) := by decide +kernel
theorem dX6_weighPairs_8 : decode cX6_weighPairs 8 = .ok (.getfield 34, 3) := by decide +kernel
theorem dX6_weighPairs_11 : decode cX6_weighPairs 11 = .ok (.getfield 72, 3) := by decide +kernel
theorem dX6_weighPairs_14 : decode cX6_weighPairs 14 = .ok (.aload_n 0, 1) := by decide +kernel
theorem dX6_weighPairs_15 : decode cX6_weighPairs 15 = .ok (.getfield 21, 3) := by decide +kernel
theorem dX6_weighPairs_18 : decode cX6_weighPairs 18 = .ok (.iload_n 1, 1) := by decide +kernel
theorem dX6_weighPairs_19 : decode cX6_weighPairs 19 = .ok (.iaload, 1) := by decide +kernel
theorem dX6_weighPairs_20 : decode cX6_weighPairs 20 = .ok (.iaload, 1) := by decide +kernel
theorem dX6_weighPairs_21 : decode cX6_weighPairs 21 = .ok (.iaload, 1) := by decide +kernel
theorem dX6_weighPairs_22 : decode cX6_weighPairs 22 = .ok (.istore_n 2, 1) := by decide +kernel
theorem dX6_weighPairs_23 : decode cX6_weighPairs 23 = .ok (.aload_n 0, 1) := by decide +kernel
theorem dX6_weighPairs_24 : decode cX6_weighPairs 24 = .ok (.getfield 48, 3) := by decide +kernel
theorem dX6_weighPairs_27 : decode cX6_weighPairs 27 = .ok (.getfield 69, 3) := by decide +kernel
theorem dX6_weighPairs_30 : decode cX6_weighPairs 30 = .ok (.aload_n 0, 1) := by decide +kernel
theorem dX6_weighPairs_31 : decode cX6_weighPairs 31 = .ok (.getfield 34, 3) := by decide +kernel
theorem dX6_weighPairs_34 : decode cX6_weighPairs 34 = .ok (.getfield 75, 3) := by decide +kernel
theorem dX6_weighPairs_37 : decode cX6_weighPairs 37 = .ok (.aload_n 0, 1) := by decide +kernel
theorem dX6_weighPairs_38 : decode cX6_weighPairs 38 = .ok (.getfield 21, 3) := by decide +kernel
theorem dX6_weighPairs_41 : decode cX6_weighPairs 41 = .ok (.iload_n 1, 1) := by decide +kernel
theorem dX6_weighPairs_42 : decode cX6_weighPairs 42 = .ok (.iaload, 1) := by decide +kernel
theorem dX6_weighPairs_43 : decode cX6_weighPairs 43 = .ok (.iaload, 1) := by decide +kernel
theorem dX6_weighPairs_44 : decode cX6_weighPairs 44 = .ok (.iaload, 1) := by decide +kernel
theorem dX6_weighPairs_45 : decode cX6_weighPairs 45 = .ok (.istore_n 3, 1) := by decide +kernel
theorem dX6_weighPairs_46 : decode cX6_weighPairs 46 = .ok (.iconst 0, 1) := by decide +kernel
theorem dX6_weighPairs_47 : decode cX6_weighPairs 47 = .ok (.istore 4, 2) := by decide +kernel
theorem dX6_weighPairs_49 : decode cX6_weighPairs 49 = .ok (.iload 4, 2) := by decide +kernel
theorem dX6_weighPairs_51 : decode cX6_weighPairs 51 = .ok (.iconst 4, 1) := by decide +kernel
theorem dX6_weighPairs_52 : decode cX6_weighPairs 52 = .ok (.if_icmp .ge 49, 3) := by decide +kernel
theorem dX6_weighPairs_55 : decode cX6_weighPairs 55 = .ok (.aload_n 0, 1) := by decide +kernel
theorem dX6_weighPairs_56 : decode cX6_weighPairs 56 = .ok (.getfield 28, 3) := by decide +kernel
theorem dX6_weighPairs_59 : decode cX6_weighPairs 59 = .ok (.iload 4, 2) := by decide +kernel
theorem dX6_weighPairs_61 : decode cX6_weighPairs 61 = .ok (.iload 4, 2) := by decide +kernel
theorem dX6_weighPairs_63 : decode cX6_weighPairs 63 = .ok (.iconst 2, 1) := by decide +kernel
theorem dX6_weighPairs_64 : decode cX6_weighPairs 64 = .ok (.iand, 1) := by decide +kernel
theorem dX6_weighPairs_65 : decode cX6_weighPairs 65 = .ok (.ifCond .eq 10, 3) := by decide +kernel
theorem dX6_weighPairs_68 : decode cX6_weighPairs 68 = .ok (.iload_n 2, 1) := by decide +kernel
theorem dX6_weighPairs_69 : decode cX6_weighPairs 69 = .ok (.invokestatic 164, 3) := by decide +kernel
theorem dX6_weighPairs_72 : decode cX6_weighPairs 72 = .ok (.goto 4, 3) := by decide +kernel
theorem dX6_weighPairs_75 : decode cX6_weighPairs 75 = .ok (.iload_n 2, 1) := by decide +kernel
theorem dX6_weighPairs_76 : decode cX6_weighPairs 76 = .ok (.iload 4, 2) := by decide +kernel
theorem dX6_weighPairs_78 : decode cX6_weighPairs 78 = .ok (.iconst 1, 1) := by decide +kernel
theorem dX6_weighPairs_79 : decode cX6_weighPairs 79 = .ok (.iand, 1) := by decide +kernel
theorem dX6_weighPairs_80 : decode cX6_weighPairs 80 = .ok (.ifCond .eq 10, 3) := by decide +kernel
theorem dX6_weighPairs_83 : decode cX6_weighPairs 83 = .ok (.iload_n 3, 1) := by decide +kernel
theorem dX6_weighPairs_84 : decode cX6_weighPairs 84 = .ok (.invokestatic 164, 3) := by decide +kernel
theorem dX6_weighPairs_87 : decode cX6_weighPairs 87 = .ok (.goto 4, 3) := by decide +kernel
theorem dX6_weighPairs_90 : decode cX6_weighPairs 90 = .ok (.iload_n 3, 1) := by decide +kernel
theorem dX6_weighPairs_91 : decode cX6_weighPairs 91 = .ok (.invokestatic 78, 3) := by decide +kernel
theorem dX6_weighPairs_94 : decode cX6_weighPairs 94 = .ok (.iastore, 1) := by decide +kernel
theorem dX6_weighPairs_95 : decode cX6_weighPairs 95 = .ok (.iinc 4 1, 3) := by decide +kernel
theorem dX6_weighPairs_98 : decode cX6_weighPairs 98 = .ok (.goto (-49), 3) := by decide +kernel
theorem dX6_weighPairs_101 : decode cX6_weighPairs 101 = .ok (.return_, 1) := by decide +kernel
set_option maxRecDepth 20000 in
theorem ggX6_choosePair_X6_gains : GoodIn wsX6_choosePair wsX6_gains := goodIn_r _ [11, 12, 13, 14, 15, 10, 16, 17, 18, 19, 20, 21, 22, 23, 24, 25, 26, 27, 28, 29, 30] (by decide +kernel) (by decide +kernel)
set_option maxRecDepth 20000 in
theorem gX6_choosePair_X6_gains : GoodIn wsX6_choosePair (wsV RX6 171 RX6 yX6_gains wsX6_gains) := goodIn_app (goodIn_of _ (by decide +kernel)) ggX6_choosePair_X6_gains
theorem dX6_choosePair_0 : decode cX6_choosePair 0 = .ok (.aload_n 0, 1) := by decide +kernel
theorem dX6_choosePair_1 : decode cX6_choosePair 1 = .ok (.iconst 0, 1) := by decide +kernel
theorem dX6_choosePair_2 : decode cX6_choosePair 2 = .ok (.putfield 161, 3) := by decide +kernel
theorem dX6_choosePair_5 : decode cX6_choosePair 5 = .ok (.aload_n 0, 1) := by decide +kernel
theorem dX6_choosePair_6 : decode cX6_choosePair 6 = .ok (.iconst 0, 1) := by decide +kernel
theorem dX6_choosePair_7 : decode cX6_choosePair 7 = .ok (.putfield 167, 3) := by decide +kernel
theorem dX6_choosePair_10 : decode cX6_choosePair 10 = .ok (.iconst 0, 1) := by decide +kernel
theorem dX6_choosePair_11 : decode cX6_choosePair 11 = .ok (.istore_n 3, 1) := by decide +kernel
theorem dX6_choosePair_12 : decode cX6_choosePair 12 = .ok (.iload_n 3, 1) := by decide +kernel
theorem dX6_choosePair_13 : decode cX6_choosePair 13 = .ok (.iconst 4, 1) := by decide +kernel
theorem dX6_choosePair_14 : decode cX6_choosePair 14 = .ok (.if_icmp .ge 78, 3) := by decide +kernel
theorem dX6_choosePair_17 : decode cX6_choosePair 17 = .ok (.aload_n 0, 1) := by decide +kernel
theorem dX6_choosePair_18 : decode cX6_choosePair 18 = .ok (.getfield 167, 3) := by decide +kernel
theorem dX6_choosePair_21 : decode cX6_choosePair 21 = .ok (.ifCond .ne 71, 3) := by decide +kernel
theorem dX6_choosePair_24 : decode cX6_choosePair 24 = .ok (.aload_n 0, 1) := by decide +kernel
theorem dX6_choosePair_25 : decode cX6_choosePair 25 = .ok (.aload_n 0, 1) := by decide +kernel
theorem dX6_choosePair_26 : decode cX6_choosePair 26 = .ok (.getfield 34, 3) := by decide +kernel
theorem dX6_choosePair_29 : decode cX6_choosePair 29 = .ok (.getfield 72, 3) := by decide +kernel
theorem dX6_choosePair_32 : decode cX6_choosePair 32 = .ok (.aload_n 0, 1) := by decide +kernel
theorem dX6_choosePair_33 : decode cX6_choosePair 33 = .ok (.getfield 21, 3) := by decide +kernel
theorem dX6_choosePair_36 : decode cX6_choosePair 36 = .ok (.iload_n 1, 1) := by decide +kernel
theorem dX6_choosePair_37 : decode cX6_choosePair 37 = .ok (.iaload, 1) := by decide +kernel
theorem dX6_choosePair_38 : decode cX6_choosePair 38 = .ok (.iaload, 1) := by decide +kernel
theorem dX6_choosePair_39 : decode cX6_choosePair 39 = .ok (.iload_n 2, 1) := by decide +kernel
theorem dX6_choosePair_40 : decode cX6_choosePair 40 = .ok (.iload_n 3, 1) := by decide +kernel
theorem dX6_choosePair_41 : decode cX6_choosePair 41 = .ok (.iload_n 3, 1) := by decide +kernel
theorem dX6_choosePair_42 : decode cX6_choosePair 42 = .ok (.iconst 2, 1) := by decide +kernel
theorem dX6_choosePair_43 : decode cX6_choosePair 43 = .ok (.ixor, 1) := by decide +kernel
theorem dX6_choosePair_44 : decode cX6_choosePair 44 = .ok (.invokevirtual 171, 3) := by decide +kernel
theorem dX6_choosePair_47 : decode cX6_choosePair 47 = .ok (.ifCond .ne 39, 3) := by decide +kernel
theorem dX6_choosePair_50 : decode cX6_choosePair 50 = .ok (.aload_n 0, 1) := by decide +kernel
theorem dX6_choosePair_51 : decode cX6_choosePair 51 = .ok (.aload_n 0, 1) := by decide +kernel
theorem dX6_choosePair_52 : decode cX6_choosePair 52 = .ok (.getfield 34, 3) := by decide +kernel
theorem dX6_choosePair_55 : decode cX6_choosePair 55 = .ok (.getfield 75, 3) := by decide +kernel
theorem dX6_choosePair_58 : decode cX6_choosePair 58 = .ok (.aload_n 0, 1) := by decide +kernel
theorem dX6_choosePair_59 : decode cX6_choosePair 59 = .ok (.getfield 21, 3) := by decide +kernel
theorem dX6_choosePair_62 : decode cX6_choosePair 62 = .ok (.iload_n 1, 1) := by decide +kernel
theorem dX6_choosePair_63 : decode cX6_choosePair 63 = .ok (.iaload, 1) := by decide +kernel
theorem dX6_choosePair_64 : decode cX6_choosePair 64 = .ok (.iaload, 1) := by decide +kernel
theorem dX6_choosePair_65 : decode cX6_choosePair 65 = .ok (.iload_n 2, 1) := by decide +kernel
theorem dX6_choosePair_66 : decode cX6_choosePair 66 = .ok (.iload_n 3, 1) := by decide +kernel
theorem dX6_choosePair_67 : decode cX6_choosePair 67 = .ok (.iload_n 3, 1) := by decide +kernel
theorem dX6_choosePair_68 : decode cX6_choosePair 68 = .ok (.iconst 1, 1) := by decide +kernel
theorem dX6_choosePair_69 : decode cX6_choosePair 69 = .ok (.ixor, 1) := by decide +kernel
theorem dX6_choosePair_70 : decode cX6_choosePair 70 = .ok (.invokevirtual 171, 3) := by decide +kernel
theorem dX6_choosePair_73 : decode cX6_choosePair 73 = .ok (.ifCond .ne 13, 3) := by decide +kernel
theorem dX6_choosePair_76 : decode cX6_choosePair 76 = .ok (.aload_n 0, 1) := by decide +kernel
theorem dX6_choosePair_77 : decode cX6_choosePair 77 = .ok (.iload_n 3, 1) := by decide +kernel
theorem dX6_choosePair_78 : decode cX6_choosePair 78 = .ok (.putfield 161, 3) := by decide +kernel
theorem dX6_choosePair_81 : decode cX6_choosePair 81 = .ok (.aload_n 0, 1) := by decide +kernel
theorem dX6_choosePair_82 : decode cX6_choosePair 82 = .ok (.iconst 1, 1) := by decide +kernel
theorem dX6_choosePair_83 : decode cX6_choosePair 83 = .ok (.putfield 167, 3) := by decide +kernel
theorem dX6_choosePair_86 : decode cX6_choosePair 86 = .ok (.iinc 3 1, 3) := by decide +kernel
theorem dX6_choosePair_89 : decode cX6_choosePair 89 = .ok (.goto (-77), 3) := by decide +kernel
theorem dX6_choosePair_92 : decode cX6_choosePair 92 = .ok (.return_, 1) := by decide +kernel
set_option maxRecDepth 20000 in
theorem ggX6_gains_X6_mixed : GoodIn wsX6_gains wsX6_mixed := goodIn_r _ [6] (by decide +kernel) (by decide +kernel)
set_option maxRecDepth 20000 in
theorem gX6_gains_X6_mixed : GoodIn wsX6_gains (va_wsS RX6 128 yX6_mixed wsX6_mixed) := goodIn_app (goodIn_of _ (by decide +kernel)) ggX6_gains_X6_mixed
theorem dX6_gains_0 : decode cX6_gains 0 = .ok (.aload_n 0, 1) := by decide +kernel
theorem dX6_gains_1 : decode cX6_gains 1 = .ok (.getfield 9, 3) := by decide +kernel
theorem dX6_gains_4 : decode cX6_gains 4 = .ok (.iconst 2, 1) := by decide +kernel
theorem dX6_gains_5 : decode cX6_gains 5 = .ok (.iload_n 2, 1) := by decide +kernel
theorem dX6_gains_6 : decode cX6_gains 6 = .ok (.imul, 1) := by decide +kernel
theorem dX6_gains_7 : decode cX6_gains 7 = .ok (.bipush 6, 2) := by decide +kernel
theorem dX6_gains_9 : decode cX6_gains 9 = .ok (.imul, 1) := by decide +kernel
theorem dX6_gains_10 : decode cX6_gains 10 = .ok (.iload_n 1, 1) := by decide +kernel
theorem dX6_gains_11 : decode cX6_gains 11 = .ok (.iadd, 1) := by decide +kernel
theorem dX6_gains_12 : decode cX6_gains 12 = .ok (.laload, 1) := by decide +kernel
theorem dX6_gains_13 : decode cX6_gains 13 = .ok (.lstore 5, 2) := by decide +kernel
theorem dX6_gains_15 : decode cX6_gains 15 = .ok (.aload_n 0, 1) := by decide +kernel
theorem dX6_gains_16 : decode cX6_gains 16 = .ok (.getfield 9, 3) := by decide +kernel
theorem dX6_gains_19 : decode cX6_gains 19 = .ok (.iconst 2, 1) := by decide +kernel
theorem dX6_gains_20 : decode cX6_gains 20 = .ok (.iload_n 2, 1) := by decide +kernel
theorem dX6_gains_21 : decode cX6_gains 21 = .ok (.imul, 1) := by decide +kernel
theorem dX6_gains_22 : decode cX6_gains 22 = .ok (.iconst 1, 1) := by decide +kernel
theorem dX6_gains_23 : decode cX6_gains 23 = .ok (.iadd, 1) := by decide +kernel
theorem dX6_gains_24 : decode cX6_gains 24 = .ok (.bipush 6, 2) := by decide +kernel
theorem dX6_gains_26 : decode cX6_gains 26 = .ok (.imul, 1) := by decide +kernel
theorem dX6_gains_27 : decode cX6_gains 27 = .ok (.iload_n 1, 1) := by decide +kernel
theorem dX6_gains_28 : decode cX6_gains 28 = .ok (.iadd, 1) := by decide +kernel
theorem dX6_gains_29 : decode cX6_gains 29 = .ok (.laload, 1) := by decide +kernel
theorem dX6_gains_30 : decode cX6_gains 30 = .ok (.lstore 7, 2) := by decide +kernel
theorem dX6_gains_32 : decode cX6_gains 32 = .ok (.aload_n 0, 1) := by decide +kernel
theorem dX6_gains_33 : decode cX6_gains 33 = .ok (.getfield 28, 3) := by decide +kernel
theorem dX6_gains_36 : decode cX6_gains 36 = .ok (.iload 4, 2) := by decide +kernel
theorem dX6_gains_38 : decode cX6_gains 38 = .ok (.iaload, 1) := by decide +kernel
theorem dX6_gains_39 : decode cX6_gains 39 = .ok (.lload 5, 2) := by decide +kernel
theorem dX6_gains_41 : decode cX6_gains 41 = .ok (.lload 7, 2) := by decide +kernel
theorem dX6_gains_43 : decode cX6_gains 43 = .ok (.invokestatic 128, 3) := by decide +kernel
theorem dX6_gains_46 : decode cX6_gains 46 = .ok (.aload_n 0, 1) := by decide +kernel
theorem dX6_gains_47 : decode cX6_gains 47 = .ok (.getfield 28, 3) := by decide +kernel
theorem dX6_gains_50 : decode cX6_gains 50 = .ok (.iload_n 3, 1) := by decide +kernel
theorem dX6_gains_51 : decode cX6_gains 51 = .ok (.iaload, 1) := by decide +kernel
theorem dX6_gains_52 : decode cX6_gains 52 = .ok (.lload 5, 2) := by decide +kernel
theorem dX6_gains_54 : decode cX6_gains 54 = .ok (.lload 7, 2) := by decide +kernel
theorem dX6_gains_56 : decode cX6_gains 56 = .ok (.invokestatic 128, 3) := by decide +kernel
theorem dX6_gains_59 : decode cX6_gains 59 = .ok (.lcmp, 1) := by decide +kernel
theorem dX6_gains_60 : decode cX6_gains 60 = .ok (.ifCond .le 7, 3) := by decide +kernel
theorem dX6_gains_63 : decode cX6_gains 63 = .ok (.iconst 1, 1) := by decide +kernel
theorem dX6_gains_64 : decode cX6_gains 64 = .ok (.goto 4, 3) := by decide +kernel
theorem dX6_gains_67 : decode cX6_gains 67 = .ok (.iconst 0, 1) := by decide +kernel
theorem dX6_gains_68 : decode cX6_gains 68 = .ok (.ireturn, 1) := by decide +kernel
set_option maxRecDepth 20000 in
theorem ggX8_init_X2_init : GoodIn wsX8_init wsX2_init := goodIn_r _ [33, 34, 2, 3, 35, 36, 37, 38, 39, 40, 111, 112, 113, 114, 115, 116, 117, 118] (by decide +kernel) (by decide +kernel)
set_option maxRecDepth 20000 in
theorem gX8_init_X2_init_n9 : GoodIn wsX8_init (wsX2_init) := ggX8_init_X2_init
set_option maxRecDepth 20000 in
theorem ggX8_init_X0_init : GoodIn wsX8_init wsX0_init := goodIn_r _ [42, 43, 2, 3, 35, 44, 45, 46, 128, 129, 130, 131] (by decide +kernel) (by decide +kernel)
set_option maxRecDepth 20000 in
theorem gX8_init_X0_init_n18 : GoodIn wsX8_init (wsX0_init) := ggX8_init_X0_init
set_option maxRecDepth 20000 in
theorem ggX8_init_X4_init : GoodIn wsX8_init wsX4_init := goodIn_r _ [48, 49, 2, 3, 35, 50, 51, 52, 53, 54, 55, 56, 132, 133, 134, 135, 136, 137, 138, 139] (by decide +kernel) (by decide +kernel)
set_option maxRecDepth 20000 in
theorem gX8_init_X4_init_n25 : GoodIn wsX8_init (wsX4_init) := ggX8_init_X4_init
set_option maxRecDepth 20000 in
theorem ggX8_init_X1_init : GoodIn wsX8_init wsX1_init := goodIn_r _ [58, 59, 2, 3, 60, 61, 62, 63, 64, 5, 6, 65, 35, 66, 67, 68, 69, 70, 71, 72, 73, 74, 32, 33, 34, 36, 37, 38, 39, 40, 175, 176, 177, 178, 179, 180, 140, 141, 142, 143, 144, 145, 146, 111, 112, 113, 114, 115, 116, 117, 118] (by decide +kernel) (by decide +kernel)
set_option maxRecDepth 20000 in
theorem gX8_init_X1_init_n32 : GoodIn wsX8_init (wsX1_init) := ggX8_init_X1_init
set_option maxRecDepth 20000 in
theorem ggX8_init_X6_init : GoodIn wsX8_init wsX6_init := goodIn_r _ [76, 77, 2, 3, 78, 79, 80, 81, 35, 82, 83, 84, 85, 9, 10, 86, 87, 13, 14, 88, 89, 5, 6, 90, 41, 42, 43, 44, 45, 46, 47, 48, 49, 50, 51, 52, 53, 54, 55, 56, 32, 33, 34, 36, 37, 38, 39, 40, 147, 148, 149, 150, 151, 152, 153, 154, 155, 156, 157, 158, 159, 160, 128, 129, 130, 131, 132, 133, 134, 135, 136, 137, 138, 139, 111, 112, 113, 114, 115, 116, 117, 118] (by decide +kernel) (by decide +kernel)
set_option maxRecDepth 20000 in
theorem gX8_init_X6_init_n39 : GoodIn wsX8_init (wsX6_init) := ggX8_init_X6_init
set_option maxRecDepth 20000 in
theorem ggX8_init_X7_init : GoodIn wsX8_init wsX7_init := goodIn_r _ [92, 93, 2, 3, 35, 94, 95, 96, 9, 10, 97, 98, 13, 14, 99, 41, 42, 43, 44, 45, 46, 47, 48, 49, 50, 51, 52, 53, 54, 55, 56, 161, 162, 163, 164, 165, 166, 167, 168, 169, 170, 128, 129, 130, 131, 132, 133, 134, 135, 136, 137, 138, 139] (by decide +kernel) (by decide +kernel)
set_option maxRecDepth 20000 in
theorem gX8_init_X7_init_n46 : GoodIn wsX8_init (wsX7_init) := ggX8_init_X7_init
set_option maxRecDepth 20000 in
theorem ggX8_init_X2_reset : GoodIn wsX8_init wsX2_reset := goodIn_r _ [103, 104, 105, 106, 36, 37, 38, 39, 40, 111, 112, 113, 114, 115, 116, 117, 118] (by decide +kernel) (by decide +kernel)
set_option maxRecDepth 20000 in
theorem gX8_init_X2_reset : GoodIn wsX8_init (wsV RX8 57 RX2 yX2_reset wsX2_reset) := goodIn_app (goodIn_of _ (by decide +kernel)) ggX8_init_X2_reset
set_option maxRecDepth 20000 in
theorem ggX8_init_X3_init : GoodIn wsX8_init wsX3_init := goodIn_r _ [108, 109, 2, 3, 35, 110, 171, 172, 173, 174] (by decide +kernel) (by decide +kernel)
set_option maxRecDepth 20000 in
theorem gX8_init_X3_init_n60 : GoodIn wsX8_init (wsX3_init) := ggX8_init_X3_init
theorem dX8_init_0 : decode cX8_init 0 = .ok (.aload_n 0, 1) := by decide +kernel
theorem dX8_init_1 : decode cX8_init 1 = .ok (.invokespecial 1, 3) := by decide +kernel
theorem dX8_init_4 : decode cX8_init 4 = .ok (.aload_n 0, 1) := by decide +kernel
theorem dX8_init_5 : decode cX8_init 5 = .ok (.new 7, 3) := by decide +kernel
theorem dX8_init_8 : decode cX8_init 8 = .ok (.dup, 1) := by decide +kernel
theorem dX8_init_9 : decode cX8_init 9 = .ok (.invokespecial 9, 3) := by decide +kernel
theorem dX8_init_12 : decode cX8_init 12 = .ok (.putfield 10, 3) := by decide +kernel
theorem dX8_init_15 : decode cX8_init 15 = .ok (.aload_n 0, 1) := by decide +kernel
theorem dX8_init_16 : decode cX8_init 16 = .ok (.new 16, 3) := by decide +kernel
theorem dX8_init_19 : decode cX8_init 19 = .ok (.dup, 1) := by decide +kernel
theorem dX8_init_20 : decode cX8_init 20 = .ok (.invokespecial 18, 3) := by decide +kernel
theorem dX8_init_23 : decode cX8_init 23 = .ok (.putfield 19, 3) := by decide +kernel
theorem dX8_init_26 : decode cX8_init 26 = .ok (.aload_n 0, 1) := by decide +kernel
theorem dX8_init_27 : decode cX8_init 27 = .ok (.new 23, 3) := by decide +kernel
theorem dX8_init_30 : decode cX8_init 30 = .ok (.dup, 1) := by decide +kernel
theorem dX8_init_31 : decode cX8_init 31 = .ok (.invokespecial 25, 3) := by decide +kernel
theorem dX8_init_34 : decode cX8_init 34 = .ok (.putfield 26, 3) := by decide +kernel
theorem dX8_init_37 : decode cX8_init 37 = .ok (.aload_n 0, 1) := by decide +kernel
theorem dX8_init_38 : decode cX8_init 38 = .ok (.new 30, 3) := by decide +kernel
theorem dX8_init_41 : decode cX8_init 41 = .ok (.dup, 1) := by decide +kernel
theorem dX8_init_42 : decode cX8_init 42 = .ok (.invokespecial 32, 3) := by decide +kernel
theorem dX8_init_45 : decode cX8_init 45 = .ok (.putfield 33, 3) := by decide +kernel
theorem dX8_init_48 : decode cX8_init 48 = .ok (.aload_n 0, 1) := by decide +kernel
theorem dX8_init_49 : decode cX8_init 49 = .ok (.new 37, 3) := by decide +kernel
theorem dX8_init_52 : decode cX8_init 52 = .ok (.dup, 1) := by decide +kernel
theorem dX8_init_53 : decode cX8_init 53 = .ok (.invokespecial 39, 3) := by decide +kernel
theorem dX8_init_56 : decode cX8_init 56 = .ok (.putfield 40, 3) := by decide +kernel
theorem dX8_init_59 : decode cX8_init 59 = .ok (.aload_n 0, 1) := by decide +kernel
theorem dX8_init_60 : decode cX8_init 60 = .ok (.new 44, 3) := by decide +kernel
theorem dX8_init_63 : decode cX8_init 63 = .ok (.dup, 1) := by decide +kernel
theorem dX8_init_64 : decode cX8_init 64 = .ok (.invokespecial 46, 3) := by decide +kernel
theorem dX8_init_67 : decode cX8_init 67 = .ok (.putfield 47, 3) := by decide +kernel
theorem dX8_init_70 : decode cX8_init 70 = .ok (.aload_n 0, 1) := by decide +kernel
theorem dX8_init_71 : decode cX8_init 71 = .ok (.iconst 4, 1) := by decide +kernel
theorem dX8_init_72 : decode cX8_init 72 = .ok (.anewarray 51, 3) := by decide +kernel
theorem dX8_init_75 : decode cX8_init 75 = .ok (.putfield 53, 3) := by decide +kernel
theorem dX8_init_78 : decode cX8_init 78 = .ok (.aload_n 0, 1) := by decide +kernel
theorem dX8_init_79 : decode cX8_init 79 = .ok (.getfield 10, 3) := by decide +kernel
theorem dX8_init_82 : decode cX8_init 82 = .ok (.invokevirtual 57, 3) := by decide +kernel
theorem dX8_init_85 : decode cX8_init 85 = .ok (.iconst 0, 1) := by decide +kernel
theorem dX8_init_86 : decode cX8_init 86 = .ok (.istore_n 1, 1) := by decide +kernel
theorem dX8_init_87 : decode cX8_init 87 = .ok (.iload_n 1, 1) := by decide +kernel
theorem dX8_init_88 : decode cX8_init 88 = .ok (.iconst 4, 1) := by decide +kernel
theorem dX8_init_89 : decode cX8_init 89 = .ok (.if_icmp .ge 22, 3) := by decide +kernel
theorem dX8_init_92 : decode cX8_init 92 = .ok (.aload_n 0, 1) := by decide +kernel
theorem dX8_init_93 : decode cX8_init 93 = .ok (.getfield 53, 3) := by decide +kernel
theorem dX8_init_96 : decode cX8_init 96 = .ok (.iload_n 1, 1) := by decide +kernel
theorem dX8_init_97 : decode cX8_init 97 = .ok (.new 51, 3) := by decide +kernel
theorem dX8_init_100 : decode cX8_init 100 = .ok (.dup, 1) := by decide +kernel
theorem dX8_init_101 : decode cX8_init 101 = .ok (.invokespecial 60, 3) := by decide +kernel
theorem dX8_init_104 : decode cX8_init 104 = .ok (.aastore, 1) := by decide +kernel
theorem dX8_init_105 : decode cX8_init 105 = .ok (.iinc 1 1, 3) := by decide +kernel
theorem dX8_init_108 : decode cX8_init 108 = .ok (.goto (-21), 3) := by decide +kernel
theorem dX8_init_111 : decode cX8_init 111 = .ok (.return_, 1) := by decide +kernel
set_option maxRecDepth 20000 in
theorem ggX8_feed_X5_put : GoodIn wsX8_feed wsX5_put := goodIn_r _ [8, 9, 10, 27, 28, 29, 30, 31, 32] (by decide +kernel) (by decide +kernel)
set_option maxRecDepth 20000 in
theorem gX8_feed_X5_put : GoodIn wsX8_feed (wsV RX8 71 RX5 yX5_put wsX5_put) := goodIn_app (goodIn_of _ (by decide +kernel)) ggX8_feed_X5_put
theorem dX8_feed_0 : decode cX8_feed 0 = .ok (.aload_n 0, 1) := by decide +kernel
theorem dX8_feed_1 : decode cX8_feed 1 = .ok (.getfield 33, 3) := by decide +kernel
theorem dX8_feed_4 : decode cX8_feed 4 = .ok (.getfield 61, 3) := by decide +kernel
theorem dX8_feed_7 : decode cX8_feed 7 = .ok (.astore_n 3, 1) := by decide +kernel
theorem dX8_feed_8 : decode cX8_feed 8 = .ok (.aload_n 3, 1) := by decide +kernel
theorem dX8_feed_9 : decode cX8_feed 9 = .ok (.getfield 65, 3) := by decide +kernel
theorem dX8_feed_12 : decode cX8_feed 12 = .ok (.bipush 8, 2) := by decide +kernel
theorem dX8_feed_14 : decode cX8_feed 14 = .ok (.iadd, 1) := by decide +kernel
theorem dX8_feed_15 : decode cX8_feed 15 = .ok (.sipush 240, 3) := by decide +kernel
theorem dX8_feed_18 : decode cX8_feed 18 = .ok (.if_icmp .le 6, 3) := by decide +kernel
theorem dX8_feed_21 : decode cX8_feed 21 = .ok (.bipush (-3), 2) := by decide +kernel
theorem dX8_feed_23 : decode cX8_feed 23 = .ok (.ireturn, 1) := by decide +kernel
theorem dX8_feed_24 : decode cX8_feed 24 = .ok (.aload_n 3, 1) := by decide +kernel
theorem dX8_feed_25 : decode cX8_feed 25 = .ok (.lload_n 1, 1) := by decide +kernel
theorem dX8_feed_26 : decode cX8_feed 26 = .ok (.invokevirtual 71, 3) := by decide +kernel
theorem dX8_feed_29 : decode cX8_feed 29 = .ok (.aload_n 3, 1) := by decide +kernel
theorem dX8_feed_30 : decode cX8_feed 30 = .ok (.getfield 65, 3) := by decide +kernel
theorem dX8_feed_33 : decode cX8_feed 33 = .ok (.ireturn, 1) := by decide +kernel
theorem dX8_end_0 : decode cX8_end 0 = .ok (.aload_n 0, 1) := by decide +kernel
theorem dX8_end_1 : decode cX8_end 1 = .ok (.getfield 33, 3) := by decide +kernel
theorem dX8_end_4 : decode cX8_end 4 = .ok (.getfield 61, 3) := by decide +kernel
theorem dX8_end_7 : decode cX8_end 7 = .ok (.getfield 65, 3) := by decide +kernel
theorem dX8_end_10 : decode cX8_end 10 = .ok (.istore_n 2, 1) := by decide +kernel
theorem dX8_end_11 : decode cX8_end 11 = .ok (.iload_n 1, 1) := by decide +kernel
theorem dX8_end_12 : decode cX8_end 12 = .ok (.ifCond .lt 8, 3) := by decide +kernel
theorem dX8_end_15 : decode cX8_end 15 = .ok (.iload_n 1, 1) := by decide +kernel
theorem dX8_end_16 : decode cX8_end 16 = .ok (.iload_n 2, 1) := by decide +kernel
theorem dX8_end_17 : decode cX8_end 17 = .ok (.if_icmp .le 5, 3) := by decide +kernel
theorem dX8_end_20 : decode cX8_end 20 = .ok (.iconst (-1), 1) := by decide +kernel
theorem dX8_end_21 : decode cX8_end 21 = .ok (.ireturn, 1) := by decide +kernel
theorem dX8_end_22 : decode cX8_end 22 = .ok (.aload_n 0, 1) := by decide +kernel
theorem dX8_end_23 : decode cX8_end 23 = .ok (.getfield 33, 3) := by decide +kernel
theorem dX8_end_26 : decode cX8_end 26 = .ok (.getfield 61, 3) := by decide +kernel
theorem dX8_end_29 : decode cX8_end 29 = .ok (.iload_n 1, 1) := by decide +kernel
theorem dX8_end_30 : decode cX8_end 30 = .ok (.putfield 65, 3) := by decide +kernel
theorem dX8_end_33 : decode cX8_end 33 = .ok (.iload_n 2, 1) := by decide +kernel
theorem dX8_end_34 : decode cX8_end 34 = .ok (.ireturn, 1) := by decide +kernel
set_option maxRecDepth 20000 in
theorem ggX8_text_X1_takeAll : GoodIn wsX8_text wsX1_takeAll := goodIn_r _ [18, 19, 20, 21, 22, 23, 24, 25, 26, 27, 28, 29, 30, 31, 32, 33, 34, 35, 36, 37, 38, 39, 40, 41, 42, 43, 44, 45, 46, 47, 48, 49, 50, 51, 52, 53, 54, 55, 56, 57, 58, 59, 60, 61, 62, 63, 64, 65, 66, 67, 68, 69, 70, 71, 72, 73, 74, 75, 76, 77, 78, 79, 80, 81, 82, 83, 84, 85, 86, 87, 88, 89, 90, 91, 92, 93, 94, 95, 96, 97, 98, 99, 100, 101, 102, 103, 104, 105, 106, 107, 108, 109, 110, 111, 112, 113, 114, 115, 116, 117, 118, 119, 120, 121, 122, 123, 124, 125, 126, 127, 128, 129, 130, 131, 17, 132, 133, 134, 135, 136, 137, 138, 139, 140, 141, 142, 143, 144, 145, 146, 147, 148, 149, 150, 151, 152, 153, 154, 155, 156, 157, 158, 159, 160, 161, 162, 163, 164, 165, 166, 167, 168, 169, 170, 171, 172, 173, 174, 175, 176, 177, 178, 179, 180, 181, 182, 183, 184, 185, 186, 187, 188, 189, 190, 191, 192, 193, 194, 195, 196, 197, 224, 225, 226, 227, 228, 229, 230, 231, 232, 233, 234, 235, 236, 241, 242, 243, 244, 245, 246, 247, 248] (by decide +kernel) (by decide +kernel)
set_option maxRecDepth 20000 in
theorem gX8_text_X1_takeAll : GoodIn wsX8_text (wsV RX8 75 RX1 yX1_takeAll wsX1_takeAll) := goodIn_app (goodIn_of _ (by decide +kernel)) ggX8_text_X1_takeAll
set_option maxRecDepth 20000 in
theorem ggX8_text_X2_copyFrom : GoodIn wsX8_text wsX2_copyFrom := goodIn_r _ [201, 32, 33, 34, 35, 36, 37, 38, 39, 241, 242, 243, 244, 245, 246, 247, 248] (by decide +kernel) (by decide +kernel)
set_option maxRecDepth 20000 in
theorem gX8_text_X2_copyFrom : GoodIn wsX8_text (wsV RX8 91 RX2 yX2_copyFrom wsX2_copyFrom) := goodIn_app (goodIn_of _ (by decide +kernel)) ggX8_text_X2_copyFrom
set_option maxRecDepth 20000 in
theorem ggX8_text_X0_addRound : GoodIn wsX8_text wsX0_addRound := goodIn_r _ [206, 207, 208, 209, 205, 210, 211, 212, 213, 214, 237, 238, 239, 240] (by decide +kernel) (by decide +kernel)
set_option maxRecDepth 20000 in
theorem gX8_text_X0_addRound : GoodIn wsX8_text (wsV RX8 104 RX0 yX0_addRound wsX0_addRound) := goodIn_app (goodIn_of _ (by decide +kernel)) ggX8_text_X0_addRound
theorem dX8_text_0 : decode cX8_text 0 = .ok (.aload_n 0, 1) := by decide +kernel
theorem dX8_text_1 : decode cX8_text 1 = .ok (.getfield 33, 3) := by decide +kernel
theorem dX8_text_4 : decode cX8_text 4 = .ok (.invokevirtual 75, 3) := by decide +kernel
theorem dX8_text_7 : decode cX8_text 7 = .ok (.istore_n 1, 1) := by decide +kernel
theorem dX8_text_8 : decode cX8_text 8 = .ok (.aload_n 0, 1) := by decide +kernel
theorem dX8_text_9 : decode cX8_text 9 = .ok (.getfield 33, 3) := by decide +kernel
theorem dX8_text_12 : decode cX8_text 12 = .ok (.getfield 61, 3) := by decide +kernel
theorem dX8_text_15 : decode cX8_text 15 = .ok (.iconst 0, 1) := by decide +kernel
theorem dX8_text_16 : decode cX8_text 16 = .ok (.putfield 65, 3) := by decide +kernel
theorem dX8_text_19 : decode cX8_text 19 = .ok (.aload_n 0, 1) := by decide +kernel
theorem dX8_text_20 : decode cX8_text 20 = .ok (.aload_n 0, 1) := by decide +kernel
theorem dX8_text_21 : decode cX8_text 21 = .ok (.getfield 33, 3) := by decide +kernel
theorem dX8_text_24 : decode cX8_text 24 = .ok (.getfield 79, 3) := by decide +kernel
theorem dX8_text_27 : decode cX8_text 27 = .ok (.putfield 82, 3) := by decide +kernel
theorem dX8_text_30 : decode cX8_text 30 = .ok (.iload_n 1, 1) := by decide +kernel
theorem dX8_text_31 : decode cX8_text 31 = .ok (.ifCond .ne 14, 3) := by decide +kernel
theorem dX8_text_34 : decode cX8_text 34 = .ok (.bipush (-10), 2) := by decide +kernel
theorem dX8_text_36 : decode cX8_text 36 = .ok (.aload_n 0, 1) := by decide +kernel
theorem dX8_text_37 : decode cX8_text 37 = .ok (.getfield 33, 3) := by decide +kernel
theorem dX8_text_40 : decode cX8_text 40 = .ok (.getfield 85, 3) := by decide +kernel
theorem dX8_text_43 : decode cX8_text 43 = .ok (.isub, 1) := by decide +kernel
theorem dX8_text_44 : decode cX8_text 44 = .ok (.ireturn, 1) := by decide +kernel
theorem dX8_text_45 : decode cX8_text 45 = .ok (.aload_n 0, 1) := by decide +kernel
theorem dX8_text_46 : decode cX8_text 46 = .ok (.getfield 10, 3) := by decide +kernel
theorem dX8_text_49 : decode cX8_text 49 = .ok (.aload_n 0, 1) := by decide +kernel
theorem dX8_text_50 : decode cX8_text 50 = .ok (.getfield 33, 3) := by decide +kernel
theorem dX8_text_53 : decode cX8_text 53 = .ok (.getfield 88, 3) := by decide +kernel
theorem dX8_text_56 : decode cX8_text 56 = .ok (.invokevirtual 91, 3) := by decide +kernel
theorem dX8_text_59 : decode cX8_text 59 = .ok (.aload_n 0, 1) := by decide +kernel
theorem dX8_text_60 : decode cX8_text 60 = .ok (.getfield 19, 3) := by decide +kernel
theorem dX8_text_63 : decode cX8_text 63 = .ok (.iconst 0, 1) := by decide +kernel
theorem dX8_text_64 : decode cX8_text 64 = .ok (.putfield 95, 3) := by decide +kernel
theorem dX8_text_67 : decode cX8_text 67 = .ok (.iconst 0, 1) := by decide +kernel
theorem dX8_text_68 : decode cX8_text 68 = .ok (.istore_n 2, 1) := by decide +kernel
theorem dX8_text_69 : decode cX8_text 69 = .ok (.iload_n 2, 1) := by decide +kernel
theorem dX8_text_70 : decode cX8_text 70 = .ok (.aload_n 0, 1) := by decide +kernel
theorem dX8_text_71 : decode cX8_text 71 = .ok (.getfield 10, 3) := by decide +kernel
theorem dX8_text_74 : decode cX8_text 74 = .ok (.getfield 98, 3) := by decide +kernel
theorem dX8_text_77 : decode cX8_text 77 = .ok (.if_icmp .ge 23, 3) := by decide +kernel
theorem dX8_text_80 : decode cX8_text 80 = .ok (.aload_n 0, 1) := by decide +kernel
theorem dX8_text_81 : decode cX8_text 81 = .ok (.getfield 19, 3) := by decide +kernel
theorem dX8_text_84 : decode cX8_text 84 = .ok (.aload_n 0, 1) := by decide +kernel
theorem dX8_text_85 : decode cX8_text 85 = .ok (.getfield 10, 3) := by decide +kernel
theorem dX8_text_88 : decode cX8_text 88 = .ok (.getfield 101, 3) := by decide +kernel
theorem dX8_text_91 : decode cX8_text 91 = .ok (.invokevirtual 104, 3) := by decide +kernel
theorem dX8_text_94 : decode cX8_text 94 = .ok (.iinc 2 1, 3) := by decide +kernel
theorem dX8_text_97 : decode cX8_text 97 = .ok (.goto (-28), 3) := by decide +kernel
theorem dX8_text_100 : decode cX8_text 100 = .ok (.aload_n 0, 1) := by decide +kernel
theorem dX8_text_101 : decode cX8_text 101 = .ok (.getfield 33, 3) := by decide +kernel
theorem dX8_text_104 : decode cX8_text 104 = .ok (.getfield 108, 3) := by decide +kernel
theorem dX8_text_107 : decode cX8_text 107 = .ok (.ireturn, 1) := by decide +kernel
theorem dX8_fault_0 : decode cX8_fault 0 = .ok (.aload_n 0, 1) := by decide +kernel
theorem dX8_fault_1 : decode cX8_fault 1 = .ok (.getfield 82, 3) := by decide +kernel
theorem dX8_fault_4 : decode cX8_fault 4 = .ok (.ireturn, 1) := by decide +kernel
theorem dX8_rule_0 : decode cX8_rule 0 = .ok (.iload_n 1, 1) := by decide +kernel
theorem dX8_rule_1 : decode cX8_rule 1 = .ok (.ifCond .ne 11, 3) := by decide +kernel
theorem dX8_rule_4 : decode cX8_rule 4 = .ok (.aload_n 0, 1) := by decide +kernel
theorem dX8_rule_5 : decode cX8_rule 5 = .ok (.getfield 10, 3) := by decide +kernel
theorem dX8_rule_8 : decode cX8_rule 8 = .ok (.getfield 101, 3) := by decide +kernel
theorem dX8_rule_11 : decode cX8_rule 11 = .ok (.ireturn, 1) := by decide +kernel
theorem dX8_rule_12 : decode cX8_rule 12 = .ok (.iload_n 1, 1) := by decide +kernel
theorem dX8_rule_13 : decode cX8_rule 13 = .ok (.iconst 1, 1) := by decide +kernel
theorem dX8_rule_14 : decode cX8_rule 14 = .ok (.if_icmp .ne 11, 3) := by decide +kernel
theorem dX8_rule_17 : decode cX8_rule 17 = .ok (.aload_n 0, 1) := by decide +kernel
theorem dX8_rule_18 : decode cX8_rule 18 = .ok (.getfield 10, 3) := by decide +kernel
theorem dX8_rule_21 : decode cX8_rule 21 = .ok (.getfield 111, 3) := by decide +kernel
theorem dX8_rule_24 : decode cX8_rule 24 = .ok (.ireturn, 1) := by decide +kernel
theorem dX8_rule_25 : decode cX8_rule 25 = .ok (.iload_n 1, 1) := by decide +kernel
theorem dX8_rule_26 : decode cX8_rule 26 = .ok (.bipush 10, 2) := by decide +kernel
theorem dX8_rule_28 : decode cX8_rule 28 = .ok (.if_icmp .lt 23, 3) := by decide +kernel
theorem dX8_rule_31 : decode cX8_rule 31 = .ok (.iload_n 1, 1) := by decide +kernel
theorem dX8_rule_32 : decode cX8_rule 32 = .ok (.bipush 59, 2) := by decide +kernel
theorem dX8_rule_34 : decode cX8_rule 34 = .ok (.if_icmp .gt 17, 3) := by decide +kernel
theorem dX8_rule_37 : decode cX8_rule 37 = .ok (.iload_n 1, 1) := by decide +kernel
theorem dX8_rule_38 : decode cX8_rule 38 = .ok (.bipush 10, 2) := by decide +kernel
theorem dX8_rule_40 : decode cX8_rule 40 = .ok (.irem, 1) := by decide +kernel
theorem dX8_rule_41 : decode cX8_rule 41 = .ok (.aload_n 0, 1) := by decide +kernel
theorem dX8_rule_42 : decode cX8_rule 42 = .ok (.getfield 10, 3) := by decide +kernel
theorem dX8_rule_45 : decode cX8_rule 45 = .ok (.getfield 101, 3) := by decide +kernel
theorem dX8_rule_48 : decode cX8_rule 48 = .ok (.if_icmp .lt 5, 3) := by decide +kernel
theorem dX8_rule_51 : decode cX8_rule 51 = .ok (.iconst (-1), 1) := by decide +kernel
theorem dX8_rule_52 : decode cX8_rule 52 = .ok (.ireturn, 1) := by decide +kernel
theorem dX8_rule_53 : decode cX8_rule 53 = .ok (.iload_n 1, 1) := by decide +kernel
theorem dX8_rule_54 : decode cX8_rule 54 = .ok (.bipush 10, 2) := by decide +kernel
theorem dX8_rule_56 : decode cX8_rule 56 = .ok (.irem, 1) := by decide +kernel
theorem dX8_rule_57 : decode cX8_rule 57 = .ok (.istore_n 2, 1) := by decide +kernel
theorem dX8_rule_58 : decode cX8_rule 58 = .ok (.iload_n 1, 1) := by decide +kernel
theorem dX8_rule_59 : decode cX8_rule 59 = .ok (.bipush 10, 2) := by decide +kernel
theorem dX8_rule_61 : decode cX8_rule 61 = .ok (.idiv, 1) := by decide +kernel
theorem dX8_rule_62 : decode cX8_rule 62 = .ok (.tableswitch 70 1 4 #[30, 40, 50, 60], 30) := by decide +kernel
theorem dX8_rule_92 : decode cX8_rule 92 = .ok (.aload_n 0, 1) := by decide +kernel
theorem dX8_rule_93 : decode cX8_rule 93 = .ok (.getfield 10, 3) := by decide +kernel
theorem dX8_rule_96 : decode cX8_rule 96 = .ok (.getfield 114, 3) := by decide +kernel
theorem dX8_rule_99 : decode cX8_rule 99 = .ok (.iload_n 2, 1) := by decide +kernel
theorem dX8_rule_100 : decode cX8_rule 100 = .ok (.iaload, 1) := by decide +kernel
theorem dX8_rule_101 : decode cX8_rule 101 = .ok (.ireturn, 1) := by decide +kernel
theorem dX8_rule_102 : decode cX8_rule 102 = .ok (.aload_n 0, 1) := by decide +kernel
theorem dX8_rule_103 : decode cX8_rule 103 = .ok (.getfield 10, 3) := by decide +kernel
theorem dX8_rule_106 : decode cX8_rule 106 = .ok (.getfield 118, 3) := by decide +kernel
theorem dX8_rule_109 : decode cX8_rule 109 = .ok (.iload_n 2, 1) := by decide +kernel
theorem dX8_rule_110 : decode cX8_rule 110 = .ok (.iaload, 1) := by decide +kernel
theorem dX8_rule_111 : decode cX8_rule 111 = .ok (.ireturn, 1) := by decide +kernel
theorem dX8_rule_112 : decode cX8_rule 112 = .ok (.aload_n 0, 1) := by decide +kernel
theorem dX8_rule_113 : decode cX8_rule 113 = .ok (.getfield 10, 3) := by decide +kernel
theorem dX8_rule_116 : decode cX8_rule 116 = .ok (.getfield 121, 3) := by decide +kernel
theorem dX8_rule_119 : decode cX8_rule 119 = .ok (.iload_n 2, 1) := by decide +kernel
theorem dX8_rule_120 : decode cX8_rule 120 = .ok (.iaload, 1) := by decide +kernel
theorem dX8_rule_121 : decode cX8_rule 121 = .ok (.ireturn, 1) := by decide +kernel
theorem dX8_rule_122 : decode cX8_rule 122 = .ok (.aload_n 0, 1) := by decide +kernel
theorem dX8_rule_123 : decode cX8_rule 123 = .ok (.getfield 10, 3) := by decide +kernel
theorem dX8_rule_126 : decode cX8_rule 126 = .ok (.getfield 124, 3) := by decide +kernel
theorem dX8_rule_129 : decode cX8_rule 129 = .ok (.iload_n 2, 1) := by decide +kernel
theorem dX8_rule_130 : decode cX8_rule 130 = .ok (.iaload, 1) := by decide +kernel
theorem dX8_rule_131 : decode cX8_rule 131 = .ok (.ireturn, 1) := by decide +kernel
theorem dX8_rule_132 : decode cX8_rule 132 = .ok (.aload_n 0, 1) := by decide +kernel
theorem dX8_rule_133 : decode cX8_rule 133 = .ok (.getfield 10, 3) := by decide +kernel
theorem dX8_rule_136 : decode cX8_rule 136 = .ok (.getfield 127, 3) := by decide +kernel
theorem dX8_rule_139 : decode cX8_rule 139 = .ok (.iload_n 2, 1) := by decide +kernel
theorem dX8_rule_140 : decode cX8_rule 140 = .ok (.iaload, 1) := by decide +kernel
theorem dX8_rule_141 : decode cX8_rule 141 = .ok (.ireturn, 1) := by decide +kernel
set_option maxRecDepth 20000 in
theorem ggX8_game_X8_isSide : GoodIn wsX8_game wsX8_isSide := goodIn_r _ [7, 8, 9, 19, 20, 21, 22, 23, 24, 25, 26, 27, 32, 33, 34, 35, 36, 37, 38, 39] (by decide +kernel) (by decide +kernel)
set_option maxRecDepth 20000 in
theorem gX8_game_X8_isSide : GoodIn wsX8_game (wsV RX8 130 RX8 yX8_isSide wsX8_isSide) := goodIn_app (goodIn_of _ (by decide +kernel)) ggX8_game_X8_isSide
set_option maxRecDepth 20000 in
theorem ggX8_game_X0_add : GoodIn wsX8_game wsX0_add := goodIn_r _ [14, 15, 16, 17, 18, 28, 29, 30, 31] (by decide +kernel) (by decide +kernel)
set_option maxRecDepth 20000 in
theorem gX8_game_X0_add : GoodIn wsX8_game (wsV RX8 134 RX0 yX0_add wsX0_add) := goodIn_app (goodIn_of _ (by decide +kernel)) ggX8_game_X0_add
theorem dX8_game_0 : decode cX8_game 0 = .ok (.aload_n 0, 1) := by decide +kernel
theorem dX8_game_1 : decode cX8_game 1 = .ok (.iload_n 1, 1) := by decide +kernel
theorem dX8_game_2 : decode cX8_game 2 = .ok (.invokevirtual 130, 3) := by decide +kernel
theorem dX8_game_5 : decode cX8_game 5 = .ok (.ifCond .eq 16, 3) := by decide +kernel
theorem dX8_game_8 : decode cX8_game 8 = .ok (.aload_n 0, 1) := by decide +kernel
theorem dX8_game_9 : decode cX8_game 9 = .ok (.iload_n 2, 1) := by decide +kernel
theorem dX8_game_10 : decode cX8_game 10 = .ok (.invokevirtual 130, 3) := by decide +kernel
theorem dX8_game_13 : decode cX8_game 13 = .ok (.ifCond .eq 8, 3) := by decide +kernel
theorem dX8_game_16 : decode cX8_game 16 = .ok (.iload_n 1, 1) := by decide +kernel
theorem dX8_game_17 : decode cX8_game 17 = .ok (.iload_n 2, 1) := by decide +kernel
theorem dX8_game_18 : decode cX8_game 18 = .ok (.if_icmp .ne 5, 3) := by decide +kernel
theorem dX8_game_21 : decode cX8_game 21 = .ok (.iconst (-1), 1) := by decide +kernel
theorem dX8_game_22 : decode cX8_game 22 = .ok (.ireturn, 1) := by decide +kernel
theorem dX8_game_23 : decode cX8_game 23 = .ok (.aload_n 0, 1) := by decide +kernel
theorem dX8_game_24 : decode cX8_game 24 = .ok (.getfield 19, 3) := by decide +kernel
theorem dX8_game_27 : decode cX8_game 27 = .ok (.getfield 95, 3) := by decide +kernel
theorem dX8_game_30 : decode cX8_game 30 = .ok (.bipush 30, 2) := by decide +kernel
theorem dX8_game_32 : decode cX8_game 32 = .ok (.if_icmp .lt 6, 3) := by decide +kernel
theorem dX8_game_35 : decode cX8_game 35 = .ok (.bipush (-3), 2) := by decide +kernel
theorem dX8_game_37 : decode cX8_game 37 = .ok (.ireturn, 1) := by decide +kernel
theorem dX8_game_38 : decode cX8_game 38 = .ok (.aload_n 0, 1) := by decide +kernel
theorem dX8_game_39 : decode cX8_game 39 = .ok (.getfield 19, 3) := by decide +kernel
theorem dX8_game_42 : decode cX8_game 42 = .ok (.iload_n 1, 1) := by decide +kernel
theorem dX8_game_43 : decode cX8_game 43 = .ok (.iload_n 2, 1) := by decide +kernel
theorem dX8_game_44 : decode cX8_game 44 = .ok (.invokevirtual 134, 3) := by decide +kernel
theorem dX8_game_47 : decode cX8_game 47 = .ok (.ireturn, 1) := by decide +kernel
set_option maxRecDepth 20000 in
theorem ggX8_of_X0_has : GoodIn wsX8_of wsX0_has := goodIn_r _ [11, 12, 36, 37, 38, 39] (by decide +kernel) (by decide +kernel)
set_option maxRecDepth 20000 in
theorem gX8_of_X0_has : GoodIn wsX8_of (wsV RX8 138 RX0 yX0_has wsX0_has) := goodIn_app (goodIn_of _ (by decide +kernel)) ggX8_of_X0_has
set_option maxRecDepth 20000 in
theorem ggX8_of_X8_chance : GoodIn wsX8_of wsX8_chance := goodIn_r _ [16, 17, 18, 19, 20, 21, 22, 23] (by decide +kernel) (by decide +kernel)
set_option maxRecDepth 20000 in
theorem gX8_of_X8_chance : GoodIn wsX8_of (va_wsS RX8 150 yX8_chance wsX8_chance) := goodIn_app (goodIn_of _ (by decide +kernel)) ggX8_of_X8_chance
set_option maxRecDepth 20000 in
theorem ggX8_of_X8_rested : GoodIn wsX8_of wsX8_rested := goodIn_r _ [26, 21, 22, 19, 23] (by decide +kernel) (by decide +kernel)
set_option maxRecDepth 20000 in
theorem gX8_of_X8_rested : GoodIn wsX8_of (va_wsS RX8 153 yX8_rested wsX8_rested) := goodIn_app (goodIn_of _ (by decide +kernel)) ggX8_of_X8_rested
theorem dX8_of_0 : decode cX8_of 0 = .ok (.aload_n 0, 1) := by decide +kernel
theorem dX8_of_1 : decode cX8_of 1 = .ok (.getfield 19, 3) := by decide +kernel
theorem dX8_of_4 : decode cX8_of 4 = .ok (.iload_n 1, 1) := by decide +kernel
theorem dX8_of_5 : decode cX8_of 5 = .ok (.invokevirtual 138, 3) := by decide +kernel
theorem dX8_of_8 : decode cX8_of 8 = .ok (.ifCond .ne 5, 3) := by decide +kernel
theorem dX8_of_11 : decode cX8_of 11 = .ok (.iconst (-1), 1) := by decide +kernel
theorem dX8_of_12 : decode cX8_of 12 = .ok (.ireturn, 1) := by decide +kernel
theorem dX8_of_13 : decode cX8_of 13 = .ok (.aload_n 0, 1) := by decide +kernel
theorem dX8_of_14 : decode cX8_of 14 = .ok (.getfield 19, 3) := by decide +kernel
theorem dX8_of_17 : decode cX8_of 17 = .ok (.getfield 141, 3) := by decide +kernel
theorem dX8_of_20 : decode cX8_of 20 = .ok (.iload_n 1, 1) := by decide +kernel
theorem dX8_of_21 : decode cX8_of 21 = .ok (.iaload, 1) := by decide +kernel
theorem dX8_of_22 : decode cX8_of 22 = .ok (.istore_n 3, 1) := by decide +kernel
theorem dX8_of_23 : decode cX8_of 23 = .ok (.aload_n 0, 1) := by decide +kernel
theorem dX8_of_24 : decode cX8_of 24 = .ok (.getfield 19, 3) := by decide +kernel
theorem dX8_of_27 : decode cX8_of 27 = .ok (.getfield 144, 3) := by decide +kernel
theorem dX8_of_30 : decode cX8_of 30 = .ok (.iload_n 1, 1) := by decide +kernel
theorem dX8_of_31 : decode cX8_of 31 = .ok (.iaload, 1) := by decide +kernel
theorem dX8_of_32 : decode cX8_of 32 = .ok (.istore 4, 2) := by decide +kernel
theorem dX8_of_34 : decode cX8_of 34 = .ok (.iload_n 2, 1) := by decide +kernel
theorem dX8_of_35 : decode cX8_of 35 = .ok (.tableswitch 127 0 5 #[37, 39, 42, 52, 75, 101], 37) := by decide +kernel
theorem dX8_of_72 : decode cX8_of 72 = .ok (.iload_n 3, 1) := by decide +kernel
theorem dX8_of_73 : decode cX8_of 73 = .ok (.ireturn, 1) := by decide +kernel
theorem dX8_of_74 : decode cX8_of 74 = .ok (.iload 4, 2) := by decide +kernel
theorem dX8_of_76 : decode cX8_of 76 = .ok (.ireturn, 1) := by decide +kernel
theorem dX8_of_77 : decode cX8_of 77 = .ok (.aload_n 0, 1) := by decide +kernel
theorem dX8_of_78 : decode cX8_of 78 = .ok (.getfield 19, 3) := by decide +kernel
theorem dX8_of_81 : decode cX8_of 81 = .ok (.getfield 147, 3) := by decide +kernel
theorem dX8_of_84 : decode cX8_of 84 = .ok (.iload_n 1, 1) := by decide +kernel
theorem dX8_of_85 : decode cX8_of 85 = .ok (.iaload, 1) := by decide +kernel
theorem dX8_of_86 : decode cX8_of 86 = .ok (.ireturn, 1) := by decide +kernel
theorem dX8_of_87 : decode cX8_of 87 = .ok (.aload_n 0, 1) := by decide +kernel
theorem dX8_of_88 : decode cX8_of 88 = .ok (.getfield 10, 3) := by decide +kernel
theorem dX8_of_91 : decode cX8_of 91 = .ok (.getfield 114, 3) := by decide +kernel
theorem dX8_of_94 : decode cX8_of 94 = .ok (.iload_n 3, 1) := by decide +kernel
theorem dX8_of_95 : decode cX8_of 95 = .ok (.iaload, 1) := by decide +kernel
theorem dX8_of_96 : decode cX8_of 96 = .ok (.aload_n 0, 1) := by decide +kernel
theorem dX8_of_97 : decode cX8_of 97 = .ok (.getfield 10, 3) := by decide +kernel
theorem dX8_of_100 : decode cX8_of 100 = .ok (.getfield 114, 3) := by decide +kernel
theorem dX8_of_103 : decode cX8_of 103 = .ok (.iload 4, 2) := by decide +kernel
theorem dX8_of_105 : decode cX8_of 105 = .ok (.iaload, 1) := by decide +kernel
theorem dX8_of_106 : decode cX8_of 106 = .ok (.invokestatic 150, 3) := by decide +kernel
theorem dX8_of_109 : decode cX8_of 109 = .ok (.ireturn, 1) := by decide +kernel
theorem dX8_of_110 : decode cX8_of 110 = .ok (.aload_n 0, 1) := by decide +kernel
theorem dX8_of_111 : decode cX8_of 111 = .ok (.getfield 10, 3) := by decide +kernel
theorem dX8_of_114 : decode cX8_of 114 = .ok (.getfield 114, 3) := by decide +kernel
theorem dX8_of_117 : decode cX8_of 117 = .ok (.iload_n 3, 1) := by decide +kernel
theorem dX8_of_118 : decode cX8_of 118 = .ok (.iaload, 1) := by decide +kernel
theorem dX8_of_119 : decode cX8_of 119 = .ok (.invokestatic 153, 3) := by decide +kernel
theorem dX8_of_122 : decode cX8_of 122 = .ok (.aload_n 0, 1) := by decide +kernel
theorem dX8_of_123 : decode cX8_of 123 = .ok (.getfield 10, 3) := by decide +kernel
theorem dX8_of_126 : decode cX8_of 126 = .ok (.getfield 114, 3) := by decide +kernel
theorem dX8_of_129 : decode cX8_of 129 = .ok (.iload 4, 2) := by decide +kernel
theorem dX8_of_131 : decode cX8_of 131 = .ok (.iaload, 1) := by decide +kernel
theorem dX8_of_132 : decode cX8_of 132 = .ok (.invokestatic 150, 3) := by decide +kernel
theorem dX8_of_135 : decode cX8_of 135 = .ok (.ireturn, 1) := by decide +kernel
theorem dX8_of_136 : decode cX8_of 136 = .ok (.aload_n 0, 1) := by decide +kernel
theorem dX8_of_137 : decode cX8_of 137 = .ok (.getfield 10, 3) := by decide +kernel
theorem dX8_of_140 : decode cX8_of 140 = .ok (.getfield 114, 3) := by decide +kernel
theorem dX8_of_143 : decode cX8_of 143 = .ok (.iload_n 3, 1) := by decide +kernel
theorem dX8_of_144 : decode cX8_of 144 = .ok (.iaload, 1) := by decide +kernel
theorem dX8_of_145 : decode cX8_of 145 = .ok (.aload_n 0, 1) := by decide +kernel
theorem dX8_of_146 : decode cX8_of 146 = .ok (.getfield 10, 3) := by decide +kernel
theorem dX8_of_149 : decode cX8_of 149 = .ok (.getfield 114, 3) := by decide +kernel
theorem dX8_of_152 : decode cX8_of 152 = .ok (.iload 4, 2) := by decide +kernel
theorem dX8_of_154 : decode cX8_of 154 = .ok (.iaload, 1) := by decide +kernel
theorem dX8_of_155 : decode cX8_of 155 = .ok (.invokestatic 153, 3) := by decide +kernel
theorem dX8_of_158 : decode cX8_of 158 = .ok (.invokestatic 150, 3) := by decide +kernel
theorem dX8_of_161 : decode cX8_of 161 = .ok (.ireturn, 1) := by decide +kernel
theorem dX8_of_162 : decode cX8_of 162 = .ok (.iconst (-1), 1) := by decide +kernel
theorem dX8_of_163 : decode cX8_of 163 = .ok (.ireturn, 1) := by decide +kernel
set_option maxRecDepth 20000 in
theorem ggX8_ends_X0_has : GoodIn wsX8_ends wsX0_has := goodIn_r _ [7, 8, 18, 19, 20, 21] (by decide +kernel) (by decide +kernel)
set_option maxRecDepth 20000 in
theorem gX8_ends_X0_has : GoodIn wsX8_ends (wsV RX8 138 RX0 yX0_has wsX0_has) := goodIn_app (goodIn_of _ (by decide +kernel)) ggX8_ends_X0_has
theorem dX8_ends_0 : decode cX8_ends 0 = .ok (.aload_n 0, 1) := by decide +kernel
theorem dX8_ends_1 : decode cX8_ends 1 = .ok (.getfield 19, 3) := by decide +kernel
theorem dX8_ends_4 : decode cX8_ends 4 = .ok (.iload_n 1, 1) := by decide +kernel
theorem dX8_ends_5 : decode cX8_ends 5 = .ok (.invokevirtual 138, 3) := by decide +kernel
theorem dX8_ends_8 : decode cX8_ends 8 = .ok (.ifCond .eq 12, 3) := by decide +kernel
theorem dX8_ends_11 : decode cX8_ends 11 = .ok (.iload_n 2, 1) := by decide +kernel
theorem dX8_ends_12 : decode cX8_ends 12 = .ok (.ifCond .lt 8, 3) := by decide +kernel
theorem dX8_ends_15 : decode cX8_ends 15 = .ok (.iload_n 2, 1) := by decide +kernel
theorem dX8_ends_16 : decode cX8_ends 16 = .ok (.iconst 2, 1) := by decide +kernel
theorem dX8_ends_17 : decode cX8_ends 17 = .ok (.if_icmp .le 5, 3) := by decide +kernel
theorem dX8_ends_20 : decode cX8_ends 20 = .ok (.iconst (-1), 1) := by decide +kernel
theorem dX8_ends_21 : decode cX8_ends 21 = .ok (.ireturn, 1) := by decide +kernel
theorem dX8_ends_22 : decode cX8_ends 22 = .ok (.aload_n 0, 1) := by decide +kernel
theorem dX8_ends_23 : decode cX8_ends 23 = .ok (.getfield 19, 3) := by decide +kernel
theorem dX8_ends_26 : decode cX8_ends 26 = .ok (.getfield 147, 3) := by decide +kernel
theorem dX8_ends_29 : decode cX8_ends 29 = .ok (.iload_n 1, 1) := by decide +kernel
theorem dX8_ends_30 : decode cX8_ends 30 = .ok (.iaload, 1) := by decide +kernel
theorem dX8_ends_31 : decode cX8_ends 31 = .ok (.istore_n 3, 1) := by decide +kernel
theorem dX8_ends_32 : decode cX8_ends 32 = .ok (.aload_n 0, 1) := by decide +kernel
theorem dX8_ends_33 : decode cX8_ends 33 = .ok (.getfield 19, 3) := by decide +kernel
theorem dX8_ends_36 : decode cX8_ends 36 = .ok (.getfield 147, 3) := by decide +kernel
theorem dX8_ends_39 : decode cX8_ends 39 = .ok (.iload_n 1, 1) := by decide +kernel
theorem dX8_ends_40 : decode cX8_ends 40 = .ok (.iload_n 2, 1) := by decide +kernel
theorem dX8_ends_41 : decode cX8_ends 41 = .ok (.iastore, 1) := by decide +kernel
theorem dX8_ends_42 : decode cX8_ends 42 = .ok (.iload_n 3, 1) := by decide +kernel
theorem dX8_ends_43 : decode cX8_ends 43 = .ok (.ireturn, 1) := by decide +kernel
set_option maxRecDepth 20000 in
theorem ggX8_table_X8_isSide : GoodIn wsX8_table wsX8_isSide := goodIn_r _ [11, 3, 4, 44, 45, 46, 47, 48, 49, 50, 51, 52, 53, 54, 55, 56, 57, 58, 59, 60] (by decide +kernel) (by decide +kernel)
set_option maxRecDepth 20000 in
theorem gX8_table_X8_isSide : GoodIn wsX8_table (wsV RX8 130 RX8 yX8_isSide wsX8_isSide) := goodIn_app (goodIn_of _ (by decide +kernel)) ggX8_table_X8_isSide
set_option maxRecDepth 20000 in
theorem ggX8_table_X4_settle : GoodIn wsX8_table wsX4_settle := goodIn_r _ [16, 17, 18, 19, 20, 21, 22, 23, 24, 25, 26, 27, 28, 29, 30, 61, 62, 63, 64, 65, 66, 67, 68, 69, 70, 71, 72] (by decide +kernel) (by decide +kernel)
set_option maxRecDepth 20000 in
theorem gX8_table_X4_settle : GoodIn wsX8_table (wsV RX8 157 RX4 yX4_settle wsX4_settle) := goodIn_app (goodIn_of _ (by decide +kernel)) ggX8_table_X4_settle
set_option maxRecDepth 20000 in
theorem ggX8_table_X0_openOf : GoodIn wsX8_table wsX0_openOf := goodIn_r _ [34, 35, 28, 36, 37, 38, 26, 39, 29, 30, 40, 41, 42, 43, 69, 70, 71, 72] (by decide +kernel) (by decide +kernel)
set_option maxRecDepth 20000 in
theorem gX8_table_X0_openOf : GoodIn wsX8_table (wsV RX8 167 RX0 yX0_openOf wsX0_openOf) := goodIn_app (goodIn_of _ (by decide +kernel)) ggX8_table_X0_openOf
theorem dX8_table_0 : decode cX8_table 0 = .ok (.aload_n 0, 1) := by decide +kernel
theorem dX8_table_1 : decode cX8_table 1 = .ok (.iload_n 1, 1) := by decide +kernel
theorem dX8_table_2 : decode cX8_table 2 = .ok (.invokevirtual 130, 3) := by decide +kernel
theorem dX8_table_5 : decode cX8_table 5 = .ok (.ifCond .eq 12, 3) := by decide +kernel
theorem dX8_table_8 : decode cX8_table 8 = .ok (.iload_n 2, 1) := by decide +kernel
theorem dX8_table_9 : decode cX8_table 9 = .ok (.ifCond .lt 8, 3) := by decide +kernel
theorem dX8_table_12 : decode cX8_table 12 = .ok (.iload_n 2, 1) := by decide +kernel
theorem dX8_table_13 : decode cX8_table 13 = .ok (.iconst 2, 1) := by decide +kernel
theorem dX8_table_14 : decode cX8_table 14 = .ok (.if_icmp .le 5, 3) := by decide +kernel
theorem dX8_table_17 : decode cX8_table 17 = .ok (.iconst (-1), 1) := by decide +kernel
theorem dX8_table_18 : decode cX8_table 18 = .ok (.ireturn, 1) := by decide +kernel
theorem dX8_table_19 : decode cX8_table 19 = .ok (.aload_n 0, 1) := by decide +kernel
theorem dX8_table_20 : decode cX8_table 20 = .ok (.getfield 26, 3) := by decide +kernel
theorem dX8_table_23 : decode cX8_table 23 = .ok (.aload_n 0, 1) := by decide +kernel
theorem dX8_table_24 : decode cX8_table 24 = .ok (.getfield 19, 3) := by decide +kernel
theorem dX8_table_27 : decode cX8_table 27 = .ok (.aload_n 0, 1) := by decide +kernel
theorem dX8_table_28 : decode cX8_table 28 = .ok (.getfield 10, 3) := by decide +kernel
theorem dX8_table_31 : decode cX8_table 31 = .ok (.getfield 101, 3) := by decide +kernel
theorem dX8_table_34 : decode cX8_table 34 = .ok (.invokevirtual 157, 3) := by decide +kernel
theorem dX8_table_37 : decode cX8_table 37 = .ok (.aload_n 0, 1) := by decide +kernel
theorem dX8_table_38 : decode cX8_table 38 = .ok (.getfield 26, 3) := by decide +kernel
theorem dX8_table_41 : decode cX8_table 41 = .ok (.getfield 161, 3) := by decide +kernel
theorem dX8_table_44 : decode cX8_table 44 = .ok (.iload_n 1, 1) := by decide +kernel
theorem dX8_table_45 : decode cX8_table 45 = .ok (.iaload, 1) := by decide +kernel
theorem dX8_table_46 : decode cX8_table 46 = .ok (.istore_n 3, 1) := by decide +kernel
theorem dX8_table_47 : decode cX8_table 47 = .ok (.iload_n 2, 1) := by decide +kernel
theorem dX8_table_48 : decode cX8_table 48 = .ok (.lookupswitch 40 #[(0, 28), (1, 30)], 28) := by decide +kernel
theorem dX8_table_76 : decode cX8_table 76 = .ok (.iload_n 3, 1) := by decide +kernel
theorem dX8_table_77 : decode cX8_table 77 = .ok (.ireturn, 1) := by decide +kernel
theorem dX8_table_78 : decode cX8_table 78 = .ok (.aload_n 0, 1) := by decide +kernel
theorem dX8_table_79 : decode cX8_table 79 = .ok (.getfield 26, 3) := by decide +kernel
theorem dX8_table_82 : decode cX8_table 82 = .ok (.getfield 164, 3) := by decide +kernel
theorem dX8_table_85 : decode cX8_table 85 = .ok (.iload_n 3, 1) := by decide +kernel
theorem dX8_table_86 : decode cX8_table 86 = .ok (.iaload, 1) := by decide +kernel
theorem dX8_table_87 : decode cX8_table 87 = .ok (.ireturn, 1) := by decide +kernel
theorem dX8_table_88 : decode cX8_table 88 = .ok (.aload_n 0, 1) := by decide +kernel
theorem dX8_table_89 : decode cX8_table 89 = .ok (.getfield 19, 3) := by decide +kernel
theorem dX8_table_92 : decode cX8_table 92 = .ok (.iload_n 3, 1) := by decide +kernel
theorem dX8_table_93 : decode cX8_table 93 = .ok (.invokevirtual 167, 3) := by decide +kernel
theorem dX8_table_96 : decode cX8_table 96 = .ok (.ireturn, 1) := by decide +kernel
set_option maxRecDepth 20000 in
theorem ggX8_may_X8_isSide : GoodIn wsX8_may wsX8_isSide := goodIn_r _ [8, 3, 9, 99, 100, 101, 102, 103, 104, 105, 106, 107, 108, 109, 110, 111, 112, 113, 114, 115] (by decide +kernel) (by decide +kernel)
set_option maxRecDepth 20000 in
theorem gX8_may_X8_isSide : GoodIn wsX8_may (wsV RX8 130 RX8 yX8_isSide wsX8_isSide) := goodIn_app (goodIn_of _ (by decide +kernel)) ggX8_may_X8_isSide
set_option maxRecDepth 20000 in
theorem ggX8_may_X0_openOnes : GoodIn wsX8_may wsX0_openOnes := goodIn_r _ [14, 15, 16, 116, 117, 118, 119] (by decide +kernel) (by decide +kernel)
set_option maxRecDepth 20000 in
theorem gX8_may_X0_openOnes : GoodIn wsX8_may (wsV RX8 170 RX0 yX0_openOnes wsX0_openOnes) := goodIn_app (goodIn_of _ (by decide +kernel)) ggX8_may_X0_openOnes
set_option maxRecDepth 20000 in
theorem ggX8_may_X6_reaches : GoodIn wsX8_may wsX6_reaches := goodIn_r _ [21, 22, 23, 24, 25, 26, 27, 20, 28, 29, 30, 31, 32, 33, 34, 35, 36, 37, 38, 39, 40, 41, 42, 43, 44, 45, 46, 47, 48, 49, 50, 51, 52, 53, 13, 54, 15, 55, 56, 16, 57, 7, 58, 59, 60, 61, 62, 63, 64, 65, 66, 67, 68, 69, 70, 71, 72, 73, 74, 75, 76, 77, 78, 79, 80, 81, 82, 83, 84, 85, 86, 87, 88, 89, 90, 91, 92, 93, 94, 95, 96, 97, 98, 120, 121, 122, 123, 124, 125, 126, 127, 128, 129, 130, 131, 132, 133, 134, 135, 136, 137, 138, 139, 140, 141, 116, 117, 118, 119, 108, 109, 110, 111, 112, 113, 114, 115] (by decide +kernel) (by decide +kernel)
set_option maxRecDepth 20000 in
theorem gX8_may_X6_reaches : GoodIn wsX8_may (wsV RX8 174 RX6 yX6_reaches wsX6_reaches) := goodIn_app (goodIn_of _ (by decide +kernel)) ggX8_may_X6_reaches
theorem dX8_may_0 : decode cX8_may 0 = .ok (.aload_n 0, 1) := by decide +kernel
theorem dX8_may_1 : decode cX8_may 1 = .ok (.iload_n 1, 1) := by decide +kernel
theorem dX8_may_2 : decode cX8_may 2 = .ok (.invokevirtual 130, 3) := by decide +kernel
theorem dX8_may_5 : decode cX8_may 5 = .ok (.ifCond .eq 11, 3) := by decide +kernel
theorem dX8_may_8 : decode cX8_may 8 = .ok (.aload_n 0, 1) := by decide +kernel
theorem dX8_may_9 : decode cX8_may 9 = .ok (.iload_n 2, 1) := by decide +kernel
theorem dX8_may_10 : decode cX8_may 10 = .ok (.invokevirtual 130, 3) := by decide +kernel
theorem dX8_may_13 : decode cX8_may 13 = .ok (.ifCond .ne 5, 3) := by decide +kernel
theorem dX8_may_16 : decode cX8_may 16 = .ok (.iconst (-1), 1) := by decide +kernel
theorem dX8_may_17 : decode cX8_may 17 = .ok (.ireturn, 1) := by decide +kernel
theorem dX8_may_18 : decode cX8_may 18 = .ok (.aload_n 0, 1) := by decide +kernel
theorem dX8_may_19 : decode cX8_may 19 = .ok (.getfield 19, 3) := by decide +kernel
theorem dX8_may_22 : decode cX8_may 22 = .ok (.invokevirtual 170, 3) := by decide +kernel
theorem dX8_may_25 : decode cX8_may 25 = .ok (.bipush 7, 2) := by decide +kernel
theorem dX8_may_27 : decode cX8_may 27 = .ok (.if_icmp .le 6, 3) := by decide +kernel
theorem dX8_may_30 : decode cX8_may 30 = .ok (.bipush (-2), 2) := by decide +kernel
theorem dX8_may_32 : decode cX8_may 32 = .ok (.ireturn, 1) := by decide +kernel
theorem dX8_may_33 : decode cX8_may 33 = .ok (.aload_n 0, 1) := by decide +kernel
theorem dX8_may_34 : decode cX8_may 34 = .ok (.getfield 40, 3) := by decide +kernel
theorem dX8_may_37 : decode cX8_may 37 = .ok (.aload_n 0, 1) := by decide +kernel
theorem dX8_may_38 : decode cX8_may 38 = .ok (.getfield 10, 3) := by decide +kernel
theorem dX8_may_41 : decode cX8_may 41 = .ok (.aload_n 0, 1) := by decide +kernel
theorem dX8_may_42 : decode cX8_may 42 = .ok (.getfield 19, 3) := by decide +kernel
theorem dX8_may_45 : decode cX8_may 45 = .ok (.iload_n 1, 1) := by decide +kernel
theorem dX8_may_46 : decode cX8_may 46 = .ok (.iload_n 2, 1) := by decide +kernel
theorem dX8_may_47 : decode cX8_may 47 = .ok (.invokevirtual 174, 3) := by decide +kernel
theorem dX8_may_50 : decode cX8_may 50 = .ok (.ifCond .eq 7, 3) := by decide +kernel
theorem dX8_may_53 : decode cX8_may 53 = .ok (.iconst 1, 1) := by decide +kernel
theorem dX8_may_54 : decode cX8_may 54 = .ok (.goto 4, 3) := by decide +kernel
theorem dX8_may_57 : decode cX8_may 57 = .ok (.iconst 0, 1) := by decide +kernel
theorem dX8_may_58 : decode cX8_may 58 = .ok (.ireturn, 1) := by decide +kernel
set_option maxRecDepth 20000 in
theorem ggX8_out_X8_isSide : GoodIn wsX8_out wsX8_isSide := goodIn_r _ [10, 3, 4, 51, 52, 53, 54, 55, 56, 57, 58, 59, 60, 61, 62, 63, 64, 65, 66, 67] (by decide +kernel) (by decide +kernel)
set_option maxRecDepth 20000 in
theorem gX8_out_X8_isSide : GoodIn wsX8_out (wsV RX8 130 RX8 yX8_isSide wsX8_isSide) := goodIn_app (goodIn_of _ (by decide +kernel)) ggX8_out_X8_isSide
set_option maxRecDepth 20000 in
theorem ggX8_out_X4_settle : GoodIn wsX8_out wsX4_settle := goodIn_r _ [15, 16, 17, 18, 19, 20, 21, 22, 23, 24, 25, 26, 27, 28, 29, 68, 69, 70, 71, 72, 73, 74, 75, 76, 77, 78, 79] (by decide +kernel) (by decide +kernel)
set_option maxRecDepth 20000 in
theorem gX8_out_X4_settle : GoodIn wsX8_out (wsV RX8 157 RX4 yX4_settle wsX4_settle) := goodIn_app (goodIn_of _ (by decide +kernel)) ggX8_out_X4_settle
set_option maxRecDepth 20000 in
theorem ggX8_out_X4_findOut : GoodIn wsX8_out wsX4_findOut := goodIn_r _ [33, 16, 34, 35, 17, 36, 18, 37, 38, 19, 39, 40, 41, 42, 22, 23, 24, 25, 26, 27, 28, 29, 43, 44, 45, 14, 46, 47, 48, 49, 50, 68, 69, 70, 71, 72, 73, 74, 75, 76, 77, 78, 79] (by decide +kernel) (by decide +kernel)
set_option maxRecDepth 20000 in
theorem gX8_out_X4_findOut : GoodIn wsX8_out (wsV RX8 178 RX4 yX4_findOut wsX4_findOut) := goodIn_app (goodIn_of _ (by decide +kernel)) ggX8_out_X4_findOut
theorem dX8_out_0 : decode cX8_out 0 = .ok (.aload_n 0, 1) := by decide +kernel
theorem dX8_out_1 : decode cX8_out 1 = .ok (.iload_n 1, 1) := by decide +kernel
theorem dX8_out_2 : decode cX8_out 2 = .ok (.invokevirtual 130, 3) := by decide +kernel
theorem dX8_out_5 : decode cX8_out 5 = .ok (.ifCond .ne 5, 3) := by decide +kernel
theorem dX8_out_8 : decode cX8_out 8 = .ok (.iconst (-1), 1) := by decide +kernel
theorem dX8_out_9 : decode cX8_out 9 = .ok (.ireturn, 1) := by decide +kernel
theorem dX8_out_10 : decode cX8_out 10 = .ok (.aload_n 0, 1) := by decide +kernel
theorem dX8_out_11 : decode cX8_out 11 = .ok (.getfield 26, 3) := by decide +kernel
theorem dX8_out_14 : decode cX8_out 14 = .ok (.aload_n 0, 1) := by decide +kernel
theorem dX8_out_15 : decode cX8_out 15 = .ok (.getfield 19, 3) := by decide +kernel
theorem dX8_out_18 : decode cX8_out 18 = .ok (.aload_n 0, 1) := by decide +kernel
theorem dX8_out_19 : decode cX8_out 19 = .ok (.getfield 10, 3) := by decide +kernel
theorem dX8_out_22 : decode cX8_out 22 = .ok (.getfield 101, 3) := by decide +kernel
theorem dX8_out_25 : decode cX8_out 25 = .ok (.invokevirtual 157, 3) := by decide +kernel
theorem dX8_out_28 : decode cX8_out 28 = .ok (.aload_n 0, 1) := by decide +kernel
theorem dX8_out_29 : decode cX8_out 29 = .ok (.getfield 26, 3) := by decide +kernel
theorem dX8_out_32 : decode cX8_out 32 = .ok (.aload_n 0, 1) := by decide +kernel
theorem dX8_out_33 : decode cX8_out 33 = .ok (.getfield 19, 3) := by decide +kernel
theorem dX8_out_36 : decode cX8_out 36 = .ok (.invokevirtual 178, 3) := by decide +kernel
theorem dX8_out_39 : decode cX8_out 39 = .ok (.aload_n 0, 1) := by decide +kernel
theorem dX8_out_40 : decode cX8_out 40 = .ok (.getfield 26, 3) := by decide +kernel
theorem dX8_out_43 : decode cX8_out 43 = .ok (.getfield 182, 3) := by decide +kernel
theorem dX8_out_46 : decode cX8_out 46 = .ok (.iload_n 1, 1) := by decide +kernel
theorem dX8_out_47 : decode cX8_out 47 = .ok (.iaload, 1) := by decide +kernel
theorem dX8_out_48 : decode cX8_out 48 = .ok (.ireturn, 1) := by decide +kernel
set_option maxRecDepth 20000 in
theorem ggX8_chooses_X8_isSide : GoodIn wsX8_chooses wsX8_isSide := goodIn_r _ [11, 3, 4, 89, 90, 91, 92, 93, 94, 95, 96, 97, 98, 99, 100, 101, 102, 103, 104, 105] (by decide +kernel) (by decide +kernel)
set_option maxRecDepth 20000 in
theorem gX8_chooses_X8_isSide : GoodIn wsX8_chooses (wsV RX8 130 RX8 yX8_isSide wsX8_isSide) := goodIn_app (goodIn_of _ (by decide +kernel)) ggX8_chooses_X8_isSide
set_option maxRecDepth 20000 in
theorem ggX8_chooses_X4_settle : GoodIn wsX8_chooses wsX4_settle := goodIn_r _ [16, 17, 18, 19, 20, 21, 22, 23, 24, 25, 26, 27, 28, 29, 30, 106, 107, 108, 109, 110, 111, 112, 113, 114, 115, 116, 117] (by decide +kernel) (by decide +kernel)
set_option maxRecDepth 20000 in
theorem gX8_chooses_X4_settle : GoodIn wsX8_chooses (wsV RX8 157 RX4 yX4_settle wsX4_settle) := goodIn_app (goodIn_of _ (by decide +kernel)) ggX8_chooses_X4_settle
set_option maxRecDepth 20000 in
theorem ggX8_chooses_X4_ballsOf : GoodIn wsX8_chooses wsX4_ballsOf := goodIn_r _ [34, 35, 17, 22, 98, 99, 100, 101, 102, 103, 104, 105, 106, 107, 108, 109, 110, 111, 112, 113] (by decide +kernel) (by decide +kernel)
set_option maxRecDepth 20000 in
theorem gX8_chooses_X4_ballsOf : GoodIn wsX8_chooses (wsV RX8 185 RX4 yX4_ballsOf wsX4_ballsOf) := goodIn_app (goodIn_of _ (by decide +kernel)) ggX8_chooses_X4_ballsOf
set_option maxRecDepth 20000 in
theorem ggX8_chooses_X0_openOnes : GoodIn wsX8_chooses wsX0_openOnes := goodIn_r _ [39, 40, 28, 114, 115, 116, 117] (by decide +kernel) (by decide +kernel)
set_option maxRecDepth 20000 in
theorem gX8_chooses_X0_openOnes : GoodIn wsX8_chooses (wsV RX8 170 RX0 yX0_openOnes wsX0_openOnes) := goodIn_app (goodIn_of _ (by decide +kernel)) ggX8_chooses_X0_openOnes
set_option maxRecDepth 20000 in
theorem ggX8_chooses_X4_findOut : GoodIn wsX8_chooses wsX4_findOut := goodIn_r _ [44, 17, 45, 46, 18, 47, 19, 48, 49, 20, 50, 51, 52, 53, 23, 24, 25, 26, 27, 28, 29, 30, 54, 55, 56, 15, 57, 58, 59, 60, 61, 106, 107, 108, 109, 110, 111, 112, 113, 114, 115, 116, 117] (by decide +kernel) (by decide +kernel)
set_option maxRecDepth 20000 in
theorem gX8_chooses_X4_findOut : GoodIn wsX8_chooses (wsV RX8 178 RX4 yX4_findOut wsX4_findOut) := goodIn_app (goodIn_of _ (by decide +kernel)) ggX8_chooses_X4_findOut
set_option maxRecDepth 20000 in
theorem ggX8_chooses_X4_arrange : GoodIn wsX8_chooses wsX4_arrange := goodIn_r _ [65, 66, 67, 68, 69, 15, 70, 17, 71, 72, 73, 74, 75, 76, 46, 77, 78, 79, 80, 21, 81, 82, 83, 84, 85, 86, 87, 88, 98, 99, 100, 101, 102, 103, 104, 105, 106, 107, 108, 109, 110, 111, 112, 113] (by decide +kernel) (by decide +kernel)
set_option maxRecDepth 20000 in
theorem gX8_chooses_X4_arrange : GoodIn wsX8_chooses (wsV RX8 189 RX4 yX4_arrange wsX4_arrange) := goodIn_app (goodIn_of _ (by decide +kernel)) ggX8_chooses_X4_arrange
theorem dX8_chooses_0 : decode cX8_chooses 0 = .ok (.aload_n 0, 1) := by decide +kernel
theorem dX8_chooses_1 : decode cX8_chooses 1 = .ok (.iload_n 1, 1) := by decide +kernel
theorem dX8_chooses_2 : decode cX8_chooses 2 = .ok (.invokevirtual 130, 3) := by decide +kernel
theorem dX8_chooses_5 : decode cX8_chooses 5 = .ok (.ifCond .ne 5, 3) := by decide +kernel
theorem dX8_chooses_8 : decode cX8_chooses 8 = .ok (.iconst (-1), 1) := by decide +kernel
theorem dX8_chooses_9 : decode cX8_chooses 9 = .ok (.ireturn, 1) := by decide +kernel
theorem dX8_chooses_10 : decode cX8_chooses 10 = .ok (.aload_n 0, 1) := by decide +kernel
theorem dX8_chooses_11 : decode cX8_chooses 11 = .ok (.getfield 26, 3) := by decide +kernel
theorem dX8_chooses_14 : decode cX8_chooses 14 = .ok (.aload_n 0, 1) := by decide +kernel
theorem dX8_chooses_15 : decode cX8_chooses 15 = .ok (.getfield 19, 3) := by decide +kernel
theorem dX8_chooses_18 : decode cX8_chooses 18 = .ok (.aload_n 0, 1) := by decide +kernel
theorem dX8_chooses_19 : decode cX8_chooses 19 = .ok (.getfield 10, 3) := by decide +kernel
theorem dX8_chooses_22 : decode cX8_chooses 22 = .ok (.getfield 101, 3) := by decide +kernel
theorem dX8_chooses_25 : decode cX8_chooses 25 = .ok (.invokevirtual 157, 3) := by decide +kernel
theorem dX8_chooses_28 : decode cX8_chooses 28 = .ok (.aload_n 0, 1) := by decide +kernel
theorem dX8_chooses_29 : decode cX8_chooses 29 = .ok (.getfield 10, 3) := by decide +kernel
theorem dX8_chooses_32 : decode cX8_chooses 32 = .ok (.getfield 111, 3) := by decide +kernel
theorem dX8_chooses_35 : decode cX8_chooses 35 = .ok (.iconst 1, 1) := by decide +kernel
theorem dX8_chooses_36 : decode cX8_chooses 36 = .ok (.if_icmp .ne 28, 3) := by decide +kernel
theorem dX8_chooses_39 : decode cX8_chooses 39 = .ok (.aload_n 0, 1) := by decide +kernel
theorem dX8_chooses_40 : decode cX8_chooses 40 = .ok (.iload_n 2, 1) := by decide +kernel
theorem dX8_chooses_41 : decode cX8_chooses 41 = .ok (.invokevirtual 130, 3) := by decide +kernel
theorem dX8_chooses_44 : decode cX8_chooses 44 = .ok (.ifCond .eq 18, 3) := by decide +kernel
theorem dX8_chooses_47 : decode cX8_chooses 47 = .ok (.aload_n 0, 1) := by decide +kernel
theorem dX8_chooses_48 : decode cX8_chooses 48 = .ok (.getfield 26, 3) := by decide +kernel
theorem dX8_chooses_51 : decode cX8_chooses 51 = .ok (.aload_n 0, 1) := by decide +kernel
theorem dX8_chooses_52 : decode cX8_chooses 52 = .ok (.getfield 10, 3) := by decide +kernel
theorem dX8_chooses_55 : decode cX8_chooses 55 = .ok (.iload_n 2, 1) := by decide +kernel
theorem dX8_chooses_56 : decode cX8_chooses 56 = .ok (.invokevirtual 185, 3) := by decide +kernel
theorem dX8_chooses_59 : decode cX8_chooses 59 = .ok (.ifCond .ne 5, 3) := by decide +kernel
theorem dX8_chooses_62 : decode cX8_chooses 62 = .ok (.iconst (-1), 1) := by decide +kernel
theorem dX8_chooses_63 : decode cX8_chooses 63 = .ok (.ireturn, 1) := by decide +kernel
theorem dX8_chooses_64 : decode cX8_chooses 64 = .ok (.aload_n 0, 1) := by decide +kernel
theorem dX8_chooses_65 : decode cX8_chooses 65 = .ok (.getfield 19, 3) := by decide +kernel
theorem dX8_chooses_68 : decode cX8_chooses 68 = .ok (.invokevirtual 170, 3) := by decide +kernel
theorem dX8_chooses_71 : decode cX8_chooses 71 = .ok (.ifCond .le 6, 3) := by decide +kernel
theorem dX8_chooses_74 : decode cX8_chooses 74 = .ok (.bipush (-2), 2) := by decide +kernel
theorem dX8_chooses_76 : decode cX8_chooses 76 = .ok (.ireturn, 1) := by decide +kernel
theorem dX8_chooses_77 : decode cX8_chooses 77 = .ok (.aload_n 0, 1) := by decide +kernel
theorem dX8_chooses_78 : decode cX8_chooses 78 = .ok (.getfield 10, 3) := by decide +kernel
theorem dX8_chooses_81 : decode cX8_chooses 81 = .ok (.getfield 111, 3) := by decide +kernel
theorem dX8_chooses_84 : decode cX8_chooses 84 = .ok (.iconst 4, 1) := by decide +kernel
theorem dX8_chooses_85 : decode cX8_chooses 85 = .ok (.if_icmp .ne 6, 3) := by decide +kernel
theorem dX8_chooses_88 : decode cX8_chooses 88 = .ok (.bipush (-4), 2) := by decide +kernel
theorem dX8_chooses_90 : decode cX8_chooses 90 = .ok (.ireturn, 1) := by decide +kernel
theorem dX8_chooses_91 : decode cX8_chooses 91 = .ok (.aload_n 0, 1) := by decide +kernel
theorem dX8_chooses_92 : decode cX8_chooses 92 = .ok (.getfield 26, 3) := by decide +kernel
theorem dX8_chooses_95 : decode cX8_chooses 95 = .ok (.aload_n 0, 1) := by decide +kernel
theorem dX8_chooses_96 : decode cX8_chooses 96 = .ok (.getfield 19, 3) := by decide +kernel
theorem dX8_chooses_99 : decode cX8_chooses 99 = .ok (.invokevirtual 178, 3) := by decide +kernel
theorem dX8_chooses_102 : decode cX8_chooses 102 = .ok (.aload_n 0, 1) := by decide +kernel
theorem dX8_chooses_103 : decode cX8_chooses 103 = .ok (.getfield 26, 3) := by decide +kernel
theorem dX8_chooses_106 : decode cX8_chooses 106 = .ok (.aload_n 0, 1) := by decide +kernel
theorem dX8_chooses_107 : decode cX8_chooses 107 = .ok (.getfield 10, 3) := by decide +kernel
theorem dX8_chooses_110 : decode cX8_chooses 110 = .ok (.iload_n 2, 1) := by decide +kernel
theorem dX8_chooses_111 : decode cX8_chooses 111 = .ok (.invokevirtual 189, 3) := by decide +kernel
theorem dX8_chooses_114 : decode cX8_chooses 114 = .ok (.aload_n 0, 1) := by decide +kernel
theorem dX8_chooses_115 : decode cX8_chooses 115 = .ok (.getfield 26, 3) := by decide +kernel
theorem dX8_chooses_118 : decode cX8_chooses 118 = .ok (.getfield 193, 3) := by decide +kernel
theorem dX8_chooses_121 : decode cX8_chooses 121 = .ok (.iload_n 1, 1) := by decide +kernel
theorem dX8_chooses_122 : decode cX8_chooses 122 = .ok (.iaload, 1) := by decide +kernel
theorem dX8_chooses_123 : decode cX8_chooses 123 = .ok (.ireturn, 1) := by decide +kernel
set_option maxRecDepth 20000 in
theorem ggX8_pay_X8_isSide : GoodIn wsX8_pay wsX8_isSide := goodIn_r _ [8, 3, 9, 185, 186, 187, 188, 189, 190, 191, 192, 193, 194, 195, 196, 197, 198, 199, 200, 201] (by decide +kernel) (by decide +kernel)
set_option maxRecDepth 20000 in
theorem gX8_pay_X8_isSide : GoodIn wsX8_pay (wsV RX8 130 RX8 yX8_isSide wsX8_isSide) := goodIn_app (goodIn_of _ (by decide +kernel)) ggX8_pay_X8_isSide
set_option maxRecDepth 20000 in
theorem ggX8_pay_X8_isPart : GoodIn wsX8_pay wsX8_isPart := goodIn_r _ [12] (by decide +kernel) (by decide +kernel)
set_option maxRecDepth 20000 in
theorem gX8_pay_X8_isPart : GoodIn wsX8_pay (va_wsS RX8 196 yX8_isPart wsX8_isPart) := goodIn_app (goodIn_of _ (by decide +kernel)) ggX8_pay_X8_isPart
set_option maxRecDepth 20000 in
theorem ggX8_pay_X0_openOnes : GoodIn wsX8_pay wsX0_openOnes := goodIn_r _ [17, 18, 19, 202, 203, 204, 205] (by decide +kernel) (by decide +kernel)
set_option maxRecDepth 20000 in
theorem gX8_pay_X0_openOnes : GoodIn wsX8_pay (wsV RX8 170 RX0 yX0_openOnes wsX0_openOnes) := goodIn_app (goodIn_of _ (by decide +kernel)) ggX8_pay_X0_openOnes
set_option maxRecDepth 20000 in
theorem ggX8_pay_X6_growPays : GoodIn wsX8_pay wsX6_growPays := goodIn_r _ [24, 25, 26, 27, 28, 29, 30, 31, 32, 23, 33, 34, 35, 36, 37, 38, 39, 40, 41, 42, 43, 44, 45, 46, 47, 48, 49, 50, 51, 52, 53, 54, 55, 56, 16, 57, 18, 58, 59, 19, 60, 7, 61, 62, 63, 64, 65, 66, 67, 68, 69, 70, 71, 72, 73, 74, 75, 76, 77, 78, 79, 80, 81, 82, 83, 84, 85, 86, 87, 88, 89, 90, 91, 92, 93, 94, 95, 96, 97, 98, 99, 100, 101, 102, 103, 104, 105, 106, 107, 108, 109, 110, 111, 112, 113, 114, 115, 116, 117, 118, 119, 120, 121, 122, 123, 124, 125, 126, 127, 128, 129, 130, 131, 132, 133, 134, 135, 136, 137, 138, 139, 140, 141, 142, 143, 144, 145, 146, 147, 148, 149, 150, 151, 152, 153, 154, 155, 156, 157, 206, 207, 208, 209, 210, 211, 212, 213, 214, 215, 216, 217, 218, 219, 202, 203, 204, 205, 194, 195, 196, 197, 198, 199, 200, 201, 220, 221, 222, 223, 224, 225, 226, 227] (by decide +kernel) (by decide +kernel)
set_option maxRecDepth 20000 in
theorem gX8_pay_X6_growPays : GoodIn wsX8_pay (wsV RX8 199 RX6 yX6_growPays wsX6_growPays) := goodIn_app (goodIn_of _ (by decide +kernel)) ggX8_pay_X6_growPays
set_option maxRecDepth 20000 in
theorem ggX8_pay_X6_expected : GoodIn wsX8_pay wsX6_expected := goodIn_r _ [161, 162, 163, 164, 23, 165, 25, 166, 29, 37, 36, 167, 168, 169, 206, 207, 208, 209, 210, 211, 212, 213, 214, 215, 216, 217, 218, 219] (by decide +kernel) (by decide +kernel)
set_option maxRecDepth 20000 in
theorem gX8_pay_X6_expected : GoodIn wsX8_pay (wsV RX8 203 RX6 yX6_expected wsX6_expected) := goodIn_app (goodIn_of _ (by decide +kernel)) ggX8_pay_X6_expected
set_option maxRecDepth 20000 in
theorem ggX8_pay_X6_scale : GoodIn wsX8_pay wsX6_scale := goodIn_r _ [173, 27, 174, 175, 176, 23, 177, 25, 178, 97, 98, 44, 99, 47, 100, 67, 64, 68, 46, 101, 102, 103, 104, 52, 206, 207, 208, 209, 210, 211, 212, 213, 214, 215, 216, 217, 218, 219, 194, 195, 196, 197, 198, 199, 200, 201] (by decide +kernel) (by decide +kernel)
set_option maxRecDepth 20000 in
theorem gX8_pay_X6_scale : GoodIn wsX8_pay (wsV RX8 207 RX6 yX6_scale wsX6_scale) := goodIn_app (goodIn_of _ (by decide +kernel)) ggX8_pay_X6_scale
set_option maxRecDepth 20000 in
theorem ggX8_pay_X8_part : GoodIn wsX8_pay wsX8_part := goodIn_r _ [181, 182, 183, 7, 184] (by decide +kernel) (by decide +kernel)
set_option maxRecDepth 20000 in
theorem gX8_pay_X8_part : GoodIn wsX8_pay (va_wsS RX8 211 yX8_part wsX8_part) := goodIn_app (goodIn_of _ (by decide +kernel)) ggX8_pay_X8_part
theorem dX8_pay_0 : decode cX8_pay 0 = .ok (.aload_n 0, 1) := by decide +kernel
theorem dX8_pay_1 : decode cX8_pay 1 = .ok (.iload_n 1, 1) := by decide +kernel
theorem dX8_pay_2 : decode cX8_pay 2 = .ok (.invokevirtual 130, 3) := by decide +kernel
theorem dX8_pay_5 : decode cX8_pay 5 = .ok (.ifCond .eq 10, 3) := by decide +kernel
theorem dX8_pay_8 : decode cX8_pay 8 = .ok (.iload_n 2, 1) := by decide +kernel
theorem dX8_pay_9 : decode cX8_pay 9 = .ok (.invokestatic 196, 3) := by decide +kernel
theorem dX8_pay_12 : decode cX8_pay 12 = .ok (.ifCond .ne 5, 3) := by decide +kernel
theorem dX8_pay_15 : decode cX8_pay 15 = .ok (.iconst (-1), 1) := by decide +kernel
theorem dX8_pay_16 : decode cX8_pay 16 = .ok (.ireturn, 1) := by decide +kernel
theorem dX8_pay_17 : decode cX8_pay 17 = .ok (.aload_n 0, 1) := by decide +kernel
theorem dX8_pay_18 : decode cX8_pay 18 = .ok (.getfield 19, 3) := by decide +kernel
theorem dX8_pay_21 : decode cX8_pay 21 = .ok (.invokevirtual 170, 3) := by decide +kernel
theorem dX8_pay_24 : decode cX8_pay 24 = .ok (.ifCond .le 6, 3) := by decide +kernel
theorem dX8_pay_27 : decode cX8_pay 27 = .ok (.bipush (-2), 2) := by decide +kernel
theorem dX8_pay_29 : decode cX8_pay 29 = .ok (.ireturn, 1) := by decide +kernel
theorem dX8_pay_30 : decode cX8_pay 30 = .ok (.aload_n 0, 1) := by decide +kernel
theorem dX8_pay_31 : decode cX8_pay 31 = .ok (.getfield 40, 3) := by decide +kernel
theorem dX8_pay_34 : decode cX8_pay 34 = .ok (.aload_n 0, 1) := by decide +kernel
theorem dX8_pay_35 : decode cX8_pay 35 = .ok (.getfield 10, 3) := by decide +kernel
theorem dX8_pay_38 : decode cX8_pay 38 = .ok (.aload_n 0, 1) := by decide +kernel
theorem dX8_pay_39 : decode cX8_pay 39 = .ok (.getfield 19, 3) := by decide +kernel
theorem dX8_pay_42 : decode cX8_pay 42 = .ok (.invokevirtual 199, 3) := by decide +kernel
theorem dX8_pay_45 : decode cX8_pay 45 = .ok (.aload_n 0, 1) := by decide +kernel
theorem dX8_pay_46 : decode cX8_pay 46 = .ok (.getfield 40, 3) := by decide +kernel
theorem dX8_pay_49 : decode cX8_pay 49 = .ok (.iload_n 1, 1) := by decide +kernel
theorem dX8_pay_50 : decode cX8_pay 50 = .ok (.invokevirtual 203, 3) := by decide +kernel
theorem dX8_pay_53 : decode cX8_pay 53 = .ok (.aload_n 0, 1) := by decide +kernel
theorem dX8_pay_54 : decode cX8_pay 54 = .ok (.getfield 40, 3) := by decide +kernel
theorem dX8_pay_57 : decode cX8_pay 57 = .ok (.invokevirtual 207, 3) := by decide +kernel
theorem dX8_pay_60 : decode cX8_pay 60 = .ok (.iload_n 2, 1) := by decide +kernel
theorem dX8_pay_61 : decode cX8_pay 61 = .ok (.invokestatic 211, 3) := by decide +kernel
theorem dX8_pay_64 : decode cX8_pay 64 = .ok (.l2i, 1) := by decide +kernel
theorem dX8_pay_65 : decode cX8_pay 65 = .ok (.ireturn, 1) := by decide +kernel
set_option maxRecDepth 20000 in
theorem ggX8_worth_X8_isSide : GoodIn wsX8_worth wsX8_isSide := goodIn_r _ [10, 5, 11, 187, 188, 189, 190, 191, 192, 193, 194, 195, 196, 197, 198, 199, 200, 201, 202, 203] (by decide +kernel) (by decide +kernel)
set_option maxRecDepth 20000 in
theorem gX8_worth_X8_isSide : GoodIn wsX8_worth (wsV RX8 130 RX8 yX8_isSide wsX8_isSide) := goodIn_app (goodIn_of _ (by decide +kernel)) ggX8_worth_X8_isSide
set_option maxRecDepth 20000 in
theorem ggX8_worth_X8_isPart : GoodIn wsX8_worth wsX8_isPart := goodIn_r _ [14] (by decide +kernel) (by decide +kernel)
set_option maxRecDepth 20000 in
theorem gX8_worth_X8_isPart : GoodIn wsX8_worth (va_wsS RX8 196 yX8_isPart wsX8_isPart) := goodIn_app (goodIn_of _ (by decide +kernel)) ggX8_worth_X8_isPart
set_option maxRecDepth 20000 in
theorem ggX8_worth_X0_openOnes : GoodIn wsX8_worth wsX0_openOnes := goodIn_r _ [19, 20, 21, 204, 205, 206, 207] (by decide +kernel) (by decide +kernel)
set_option maxRecDepth 20000 in
theorem gX8_worth_X0_openOnes : GoodIn wsX8_worth (wsV RX8 170 RX0 yX0_openOnes wsX0_openOnes) := goodIn_app (goodIn_of _ (by decide +kernel)) ggX8_worth_X0_openOnes
set_option maxRecDepth 20000 in
theorem ggX8_worth_X6_growPays : GoodIn wsX8_worth wsX6_growPays := goodIn_r _ [26, 27, 28, 29, 30, 31, 32, 33, 34, 25, 35, 36, 37, 38, 39, 40, 41, 42, 43, 44, 45, 46, 47, 48, 49, 50, 51, 52, 53, 54, 55, 56, 57, 58, 18, 59, 20, 60, 61, 21, 62, 9, 63, 64, 65, 66, 67, 68, 69, 70, 71, 72, 73, 74, 75, 76, 77, 78, 79, 80, 81, 82, 83, 84, 85, 86, 87, 88, 89, 90, 91, 92, 93, 94, 95, 96, 97, 98, 99, 100, 101, 102, 103, 104, 105, 106, 107, 108, 109, 110, 111, 112, 113, 114, 115, 116, 117, 118, 119, 120, 121, 122, 123, 124, 125, 126, 127, 128, 129, 130, 131, 132, 133, 134, 135, 136, 137, 138, 139, 140, 141, 142, 143, 144, 145, 146, 147, 148, 149, 150, 151, 152, 153, 154, 155, 156, 157, 158, 159, 208, 209, 210, 211, 212, 213, 214, 215, 216, 217, 218, 219, 220, 221, 204, 205, 206, 207, 196, 197, 198, 199, 200, 201, 202, 203, 222, 223, 224, 225, 226, 227, 228, 229] (by decide +kernel) (by decide +kernel)
set_option maxRecDepth 20000 in
theorem gX8_worth_X6_growPays : GoodIn wsX8_worth (wsV RX8 199 RX6 yX6_growPays wsX6_growPays) := goodIn_app (goodIn_of _ (by decide +kernel)) ggX8_worth_X6_growPays
set_option maxRecDepth 20000 in
theorem ggX8_worth_X6_expected : GoodIn wsX8_worth wsX6_expected := goodIn_r _ [163, 164, 165, 166, 25, 167, 27, 168, 31, 39, 38, 169, 170, 171, 208, 209, 210, 211, 212, 213, 214, 215, 216, 217, 218, 219, 220, 221] (by decide +kernel) (by decide +kernel)
set_option maxRecDepth 20000 in
theorem gX8_worth_X6_expected : GoodIn wsX8_worth (wsV RX8 203 RX6 yX6_expected wsX6_expected) := goodIn_app (goodIn_of _ (by decide +kernel)) ggX8_worth_X6_expected
set_option maxRecDepth 20000 in
theorem ggX8_worth_X6_scale : GoodIn wsX8_worth wsX6_scale := goodIn_r _ [175, 29, 176, 177, 178, 25, 179, 27, 180, 99, 100, 46, 101, 49, 102, 69, 66, 70, 48, 103, 104, 105, 106, 54, 208, 209, 210, 211, 212, 213, 214, 215, 216, 217, 218, 219, 220, 221, 196, 197, 198, 199, 200, 201, 202, 203] (by decide +kernel) (by decide +kernel)
set_option maxRecDepth 20000 in
theorem gX8_worth_X6_scale : GoodIn wsX8_worth (wsV RX8 207 RX6 yX6_scale wsX6_scale) := goodIn_app (goodIn_of _ (by decide +kernel)) ggX8_worth_X6_scale
set_option maxRecDepth 20000 in
theorem ggX8_worth_X8_part : GoodIn wsX8_worth wsX8_part := goodIn_r _ [183, 184, 185, 9, 186] (by decide +kernel) (by decide +kernel)
set_option maxRecDepth 20000 in
theorem gX8_worth_X8_part : GoodIn wsX8_worth (va_wsS RX8 211 yX8_part wsX8_part) := goodIn_app (goodIn_of _ (by decide +kernel)) ggX8_worth_X8_part
theorem dX8_worth_0 : decode cX8_worth 0 = .ok (.aload_n 0, 1) := by decide +kernel
theorem dX8_worth_1 : decode cX8_worth 1 = .ok (.iload_n 1, 1) := by decide +kernel
theorem dX8_worth_2 : decode cX8_worth 2 = .ok (.invokevirtual 130, 3) := by decide +kernel
theorem dX8_worth_5 : decode cX8_worth 5 = .ok (.ifCond .eq 10, 3) := by decide +kernel
theorem dX8_worth_8 : decode cX8_worth 8 = .ok (.iload_n 2, 1) := by decide +kernel
theorem dX8_worth_9 : decode cX8_worth 9 = .ok (.invokestatic 196, 3) := by decide +kernel
theorem dX8_worth_12 : decode cX8_worth 12 = .ok (.ifCond .ne 7, 3) := by decide +kernel
theorem dX8_worth_15 : decode cX8_worth 15 = .ok (.ldc2_w 215, 3) := by decide +kernel
theorem dX8_worth_18 : decode cX8_worth 18 = .ok (.lreturn, 1) := by decide +kernel
theorem dX8_worth_19 : decode cX8_worth 19 = .ok (.aload_n 0, 1) := by decide +kernel
theorem dX8_worth_20 : decode cX8_worth 20 = .ok (.getfield 19, 3) := by decide +kernel
theorem dX8_worth_23 : decode cX8_worth 23 = .ok (.invokevirtual 170, 3) := by decide +kernel
theorem dX8_worth_26 : decode cX8_worth 26 = .ok (.bipush 7, 2) := by decide +kernel
theorem dX8_worth_28 : decode cX8_worth 28 = .ok (.if_icmp .le 7, 3) := by decide +kernel
theorem dX8_worth_31 : decode cX8_worth 31 = .ok (.ldc2_w 217, 3) := by decide +kernel
theorem dX8_worth_34 : decode cX8_worth 34 = .ok (.lreturn, 1) := by decide +kernel
theorem dX8_worth_35 : decode cX8_worth 35 = .ok (.aload_n 0, 1) := by decide +kernel
theorem dX8_worth_36 : decode cX8_worth 36 = .ok (.getfield 40, 3) := by decide +kernel
theorem dX8_worth_39 : decode cX8_worth 39 = .ok (.aload_n 0, 1) := by decide +kernel
theorem dX8_worth_40 : decode cX8_worth 40 = .ok (.getfield 10, 3) := by decide +kernel
theorem dX8_worth_43 : decode cX8_worth 43 = .ok (.aload_n 0, 1) := by decide +kernel
theorem dX8_worth_44 : decode cX8_worth 44 = .ok (.getfield 19, 3) := by decide +kernel
theorem dX8_worth_47 : decode cX8_worth 47 = .ok (.invokevirtual 199, 3) := by decide +kernel
theorem dX8_worth_50 : decode cX8_worth 50 = .ok (.aload_n 0, 1) := by decide +kernel
theorem dX8_worth_51 : decode cX8_worth 51 = .ok (.getfield 40, 3) := by decide +kernel
theorem dX8_worth_54 : decode cX8_worth 54 = .ok (.iload_n 1, 1) := by decide +kernel
theorem dX8_worth_55 : decode cX8_worth 55 = .ok (.invokevirtual 203, 3) := by decide +kernel
theorem dX8_worth_58 : decode cX8_worth 58 = .ok (.aload_n 0, 1) := by decide +kernel
theorem dX8_worth_59 : decode cX8_worth 59 = .ok (.getfield 40, 3) := by decide +kernel
theorem dX8_worth_62 : decode cX8_worth 62 = .ok (.invokevirtual 207, 3) := by decide +kernel
theorem dX8_worth_65 : decode cX8_worth 65 = .ok (.iload_n 2, 1) := by decide +kernel
theorem dX8_worth_66 : decode cX8_worth 66 = .ok (.invokestatic 211, 3) := by decide +kernel
theorem dX8_worth_69 : decode cX8_worth 69 = .ok (.lreturn, 1) := by decide +kernel
set_option maxRecDepth 20000 in
theorem ggX8_worthIf_X8_isSide : GoodIn wsX8_worthIf wsX8_isSide := goodIn_r _ [10, 5, 11, 199, 200, 201, 202, 203, 204, 205, 206, 207, 208, 209, 210, 211, 212, 213, 214, 215] (by decide +kernel) (by decide +kernel)
set_option maxRecDepth 20000 in
theorem gX8_worthIf_X8_isSide : GoodIn wsX8_worthIf (wsV RX8 130 RX8 yX8_isSide wsX8_isSide) := goodIn_app (goodIn_of _ (by decide +kernel)) ggX8_worthIf_X8_isSide
set_option maxRecDepth 20000 in
theorem ggX8_worthIf_X0_isOpen : GoodIn wsX8_worthIf wsX0_isOpen := goodIn_r _ [16, 17, 18, 19, 20, 15, 21, 22, 216, 217, 218, 219] (by decide +kernel) (by decide +kernel)
set_option maxRecDepth 20000 in
theorem gX8_worthIf_X0_isOpen : GoodIn wsX8_worthIf (wsV RX8 219 RX0 yX0_isOpen wsX0_isOpen) := goodIn_app (goodIn_of _ (by decide +kernel)) ggX8_worthIf_X0_isOpen
set_option maxRecDepth 20000 in
theorem ggX8_worthIf_X0_isOf : GoodIn wsX8_worthIf wsX0_isOf := goodIn_r _ [26, 27, 28, 18, 19, 20, 15, 21, 22, 216, 217, 218, 219] (by decide +kernel) (by decide +kernel)
set_option maxRecDepth 20000 in
theorem gX8_worthIf_X0_isOf : GoodIn wsX8_worthIf (wsV RX8 222 RX0 yX0_isOf wsX0_isOf) := goodIn_app (goodIn_of _ (by decide +kernel)) ggX8_worthIf_X0_isOf
set_option maxRecDepth 20000 in
theorem ggX8_worthIf_X8_isPart : GoodIn wsX8_worthIf wsX8_isPart := goodIn_r _ [31] (by decide +kernel) (by decide +kernel)
set_option maxRecDepth 20000 in
theorem gX8_worthIf_X8_isPart : GoodIn wsX8_worthIf (va_wsS RX8 196 yX8_isPart wsX8_isPart) := goodIn_app (goodIn_of _ (by decide +kernel)) ggX8_worthIf_X8_isPart
set_option maxRecDepth 20000 in
theorem ggX8_worthIf_X0_openOnes : GoodIn wsX8_worthIf wsX0_openOnes := goodIn_r _ [35, 22, 17, 216, 217, 218, 219] (by decide +kernel) (by decide +kernel)
set_option maxRecDepth 20000 in
theorem gX8_worthIf_X0_openOnes : GoodIn wsX8_worthIf (wsV RX8 170 RX0 yX0_openOnes wsX0_openOnes) := goodIn_app (goodIn_of _ (by decide +kernel)) ggX8_worthIf_X0_openOnes
set_option maxRecDepth 20000 in
theorem ggX8_worthIf_X6_growPays : GoodIn wsX8_worthIf wsX6_growPays := goodIn_r _ [40, 41, 42, 43, 44, 45, 46, 47, 48, 39, 49, 50, 51, 52, 53, 54, 55, 56, 57, 58, 59, 60, 61, 62, 63, 64, 65, 66, 67, 68, 69, 70, 71, 72, 15, 73, 22, 27, 28, 17, 74, 9, 75, 76, 77, 78, 79, 80, 81, 82, 83, 84, 85, 86, 87, 88, 89, 90, 91, 92, 93, 94, 95, 96, 97, 98, 99, 100, 101, 102, 103, 104, 105, 106, 107, 108, 109, 110, 111, 112, 113, 114, 115, 116, 117, 118, 119, 120, 121, 122, 123, 124, 125, 126, 127, 128, 129, 130, 131, 132, 133, 134, 135, 136, 137, 138, 139, 140, 141, 142, 143, 144, 145, 146, 147, 148, 149, 150, 151, 152, 153, 154, 155, 156, 157, 158, 159, 160, 161, 162, 163, 164, 165, 166, 167, 168, 169, 170, 171, 220, 221, 222, 223, 224, 225, 226, 227, 228, 229, 230, 231, 232, 233, 216, 217, 218, 219, 208, 209, 210, 211, 212, 213, 214, 215, 234, 235, 236, 237, 238, 239, 240, 241] (by decide +kernel) (by decide +kernel)
set_option maxRecDepth 20000 in
theorem gX8_worthIf_X6_growPays : GoodIn wsX8_worthIf (wsV RX8 199 RX6 yX6_growPays wsX6_growPays) := goodIn_app (goodIn_of _ (by decide +kernel)) ggX8_worthIf_X6_growPays
set_option maxRecDepth 20000 in
theorem ggX8_worthIf_X6_expectedIf : GoodIn wsX8_worthIf wsX6_expectedIf := goodIn_r _ [175, 44, 55, 176, 177, 178, 39, 179, 41, 180, 45, 53, 52, 181, 182, 183, 220, 221, 222, 223, 224, 225, 226, 227, 228, 229, 230, 231, 232, 233, 216, 217, 218, 219] (by decide +kernel) (by decide +kernel)
set_option maxRecDepth 20000 in
theorem gX8_worthIf_X6_expectedIf : GoodIn wsX8_worthIf (wsV RX8 226 RX6 yX6_expectedIf wsX6_expectedIf) := goodIn_app (goodIn_of _ (by decide +kernel)) ggX8_worthIf_X6_expectedIf
set_option maxRecDepth 20000 in
theorem ggX8_worthIf_X6_scale : GoodIn wsX8_worthIf wsX6_scale := goodIn_r _ [187, 43, 188, 189, 190, 39, 191, 41, 192, 111, 112, 60, 113, 63, 114, 81, 78, 82, 62, 115, 116, 117, 118, 68, 220, 221, 222, 223, 224, 225, 226, 227, 228, 229, 230, 231, 232, 233, 208, 209, 210, 211, 212, 213, 214, 215] (by decide +kernel) (by decide +kernel)
set_option maxRecDepth 20000 in
theorem gX8_worthIf_X6_scale : GoodIn wsX8_worthIf (wsV RX8 207 RX6 yX6_scale wsX6_scale) := goodIn_app (goodIn_of _ (by decide +kernel)) ggX8_worthIf_X6_scale
set_option maxRecDepth 20000 in
theorem ggX8_worthIf_X8_part : GoodIn wsX8_worthIf wsX8_part := goodIn_r _ [195, 196, 197, 9, 198] (by decide +kernel) (by decide +kernel)
set_option maxRecDepth 20000 in
theorem gX8_worthIf_X8_part : GoodIn wsX8_worthIf (va_wsS RX8 211 yX8_part wsX8_part) := goodIn_app (goodIn_of _ (by decide +kernel)) ggX8_worthIf_X8_part
theorem dX8_worthIf_0 : decode cX8_worthIf 0 = .ok (.aload_n 0, 1) := by decide +kernel
theorem dX8_worthIf_1 : decode cX8_worthIf 1 = .ok (.iload_n 1, 1) := by decide +kernel
theorem dX8_worthIf_2 : decode cX8_worthIf 2 = .ok (.invokevirtual 130, 3) := by decide +kernel
theorem dX8_worthIf_5 : decode cX8_worthIf 5 = .ok (.ifCond .eq 34, 3) := by decide +kernel
theorem dX8_worthIf_8 : decode cX8_worthIf 8 = .ok (.aload_n 0, 1) := by decide +kernel
theorem dX8_worthIf_9 : decode cX8_worthIf 9 = .ok (.getfield 19, 3) := by decide +kernel
theorem dX8_worthIf_12 : decode cX8_worthIf 12 = .ok (.iload_n 2, 1) := by decide +kernel
theorem dX8_worthIf_13 : decode cX8_worthIf 13 = .ok (.invokevirtual 219, 3) := by decide +kernel
theorem dX8_worthIf_16 : decode cX8_worthIf 16 = .ok (.ifCond .eq 23, 3) := by decide +kernel
theorem dX8_worthIf_19 : decode cX8_worthIf 19 = .ok (.aload_n 0, 1) := by decide +kernel
theorem dX8_worthIf_20 : decode cX8_worthIf 20 = .ok (.getfield 19, 3) := by decide +kernel
theorem dX8_worthIf_23 : decode cX8_worthIf 23 = .ok (.iload_n 2, 1) := by decide +kernel
theorem dX8_worthIf_24 : decode cX8_worthIf 24 = .ok (.iload_n 1, 1) := by decide +kernel
theorem dX8_worthIf_25 : decode cX8_worthIf 25 = .ok (.invokevirtual 222, 3) := by decide +kernel
theorem dX8_worthIf_28 : decode cX8_worthIf 28 = .ok (.ifCond .eq 11, 3) := by decide +kernel
theorem dX8_worthIf_31 : decode cX8_worthIf 31 = .ok (.iload 4, 2) := by decide +kernel
theorem dX8_worthIf_33 : decode cX8_worthIf 33 = .ok (.invokestatic 196, 3) := by decide +kernel
theorem dX8_worthIf_36 : decode cX8_worthIf 36 = .ok (.ifCond .ne 7, 3) := by decide +kernel
theorem dX8_worthIf_39 : decode cX8_worthIf 39 = .ok (.ldc2_w 215, 3) := by decide +kernel
theorem dX8_worthIf_42 : decode cX8_worthIf 42 = .ok (.lreturn, 1) := by decide +kernel
theorem dX8_worthIf_43 : decode cX8_worthIf 43 = .ok (.aload_n 0, 1) := by decide +kernel
theorem dX8_worthIf_44 : decode cX8_worthIf 44 = .ok (.getfield 19, 3) := by decide +kernel
theorem dX8_worthIf_47 : decode cX8_worthIf 47 = .ok (.invokevirtual 170, 3) := by decide +kernel
theorem dX8_worthIf_50 : decode cX8_worthIf 50 = .ok (.bipush 7, 2) := by decide +kernel
theorem dX8_worthIf_52 : decode cX8_worthIf 52 = .ok (.if_icmp .le 7, 3) := by decide +kernel
theorem dX8_worthIf_55 : decode cX8_worthIf 55 = .ok (.ldc2_w 217, 3) := by decide +kernel
theorem dX8_worthIf_58 : decode cX8_worthIf 58 = .ok (.lreturn, 1) := by decide +kernel
theorem dX8_worthIf_59 : decode cX8_worthIf 59 = .ok (.aload_n 0, 1) := by decide +kernel
theorem dX8_worthIf_60 : decode cX8_worthIf 60 = .ok (.getfield 40, 3) := by decide +kernel
theorem dX8_worthIf_63 : decode cX8_worthIf 63 = .ok (.aload_n 0, 1) := by decide +kernel
theorem dX8_worthIf_64 : decode cX8_worthIf 64 = .ok (.getfield 10, 3) := by decide +kernel
theorem dX8_worthIf_67 : decode cX8_worthIf 67 = .ok (.aload_n 0, 1) := by decide +kernel
theorem dX8_worthIf_68 : decode cX8_worthIf 68 = .ok (.getfield 19, 3) := by decide +kernel
theorem dX8_worthIf_71 : decode cX8_worthIf 71 = .ok (.invokevirtual 199, 3) := by decide +kernel
theorem dX8_worthIf_74 : decode cX8_worthIf 74 = .ok (.aload_n 0, 1) := by decide +kernel
theorem dX8_worthIf_75 : decode cX8_worthIf 75 = .ok (.getfield 40, 3) := by decide +kernel
theorem dX8_worthIf_78 : decode cX8_worthIf 78 = .ok (.iload_n 1, 1) := by decide +kernel
theorem dX8_worthIf_79 : decode cX8_worthIf 79 = .ok (.iload_n 2, 1) := by decide +kernel
theorem dX8_worthIf_80 : decode cX8_worthIf 80 = .ok (.iload_n 3, 1) := by decide +kernel
theorem dX8_worthIf_81 : decode cX8_worthIf 81 = .ok (.invokevirtual 226, 3) := by decide +kernel
theorem dX8_worthIf_84 : decode cX8_worthIf 84 = .ok (.aload_n 0, 1) := by decide +kernel
theorem dX8_worthIf_85 : decode cX8_worthIf 85 = .ok (.getfield 40, 3) := by decide +kernel
theorem dX8_worthIf_88 : decode cX8_worthIf 88 = .ok (.invokevirtual 207, 3) := by decide +kernel
theorem dX8_worthIf_91 : decode cX8_worthIf 91 = .ok (.iload 4, 2) := by decide +kernel
theorem dX8_worthIf_93 : decode cX8_worthIf 93 = .ok (.invokestatic 211, 3) := by decide +kernel
theorem dX8_worthIf_96 : decode cX8_worthIf 96 = .ok (.lreturn, 1) := by decide +kernel
set_option maxRecDepth 20000 in
theorem ggX8_wants_X0_isOpen : GoodIn wsX8_wants wsX0_isOpen := goodIn_r _ [8, 9, 10, 11, 12, 7, 13, 14, 187, 188, 189, 190] (by decide +kernel) (by decide +kernel)
set_option maxRecDepth 20000 in
theorem gX8_wants_X0_isOpen : GoodIn wsX8_wants (wsV RX8 219 RX0 yX0_isOpen wsX0_isOpen) := goodIn_app (goodIn_of _ (by decide +kernel)) ggX8_wants_X0_isOpen
set_option maxRecDepth 20000 in
theorem ggX8_wants_X0_openOnes : GoodIn wsX8_wants wsX0_openOnes := goodIn_r _ [18, 14, 9, 187, 188, 189, 190] (by decide +kernel) (by decide +kernel)
set_option maxRecDepth 20000 in
theorem gX8_wants_X0_openOnes : GoodIn wsX8_wants (wsV RX8 170 RX0 yX0_openOnes wsX0_openOnes) := goodIn_app (goodIn_of _ (by decide +kernel)) ggX8_wants_X0_openOnes
set_option maxRecDepth 20000 in
theorem ggX8_wants_X6_growPays : GoodIn wsX8_wants wsX6_growPays := goodIn_r _ [23, 24, 25, 26, 27, 28, 29, 30, 31, 22, 32, 33, 34, 35, 36, 37, 38, 39, 40, 41, 42, 43, 44, 45, 46, 47, 48, 49, 50, 51, 52, 53, 54, 55, 7, 56, 14, 57, 58, 9, 59, 60, 61, 62, 63, 64, 65, 66, 67, 68, 69, 70, 71, 72, 73, 74, 75, 76, 77, 78, 79, 80, 81, 82, 83, 84, 85, 86, 87, 88, 89, 90, 91, 92, 93, 94, 95, 96, 97, 98, 99, 100, 101, 102, 103, 104, 105, 106, 107, 108, 109, 110, 111, 112, 113, 114, 115, 116, 117, 118, 119, 120, 121, 122, 123, 124, 125, 126, 127, 128, 129, 130, 131, 132, 133, 134, 135, 136, 137, 138, 139, 140, 141, 142, 143, 144, 145, 146, 147, 148, 149, 150, 151, 152, 153, 154, 155, 156, 157, 191, 192, 193, 194, 195, 196, 197, 198, 199, 200, 201, 202, 203, 204, 187, 188, 189, 190, 205, 206, 207, 208, 209, 210, 211, 212, 213, 214, 215, 216, 217, 218, 219, 220] (by decide +kernel) (by decide +kernel)
set_option maxRecDepth 20000 in
theorem gX8_wants_X6_growPays : GoodIn wsX8_wants (wsV RX8 199 RX6 yX6_growPays wsX6_growPays) := goodIn_app (goodIn_of _ (by decide +kernel)) ggX8_wants_X6_growPays
set_option maxRecDepth 20000 in
theorem ggX8_wants_X6_losers : GoodIn wsX8_wants wsX6_losers := goodIn_r _ [161, 27, 38, 39, 162, 163, 164, 22, 165, 166, 167, 168, 169, 170, 171, 172, 173, 24, 174, 28, 36, 35, 175, 176, 177, 191, 192, 193, 194, 195, 196, 197, 198, 199, 200, 201, 202, 203, 204, 187, 188, 189, 190] (by decide +kernel) (by decide +kernel)
set_option maxRecDepth 20000 in
theorem gX8_wants_X6_losers : GoodIn wsX8_wants (wsV RX8 230 RX6 yX6_losers wsX6_losers) := goodIn_app (goodIn_of _ (by decide +kernel)) ggX8_wants_X6_losers
theorem dX8_wants_0 : decode cX8_wants 0 = .ok (.aload_n 0, 1) := by decide +kernel
theorem dX8_wants_1 : decode cX8_wants 1 = .ok (.getfield 19, 3) := by decide +kernel
theorem dX8_wants_4 : decode cX8_wants 4 = .ok (.iload_n 1, 1) := by decide +kernel
theorem dX8_wants_5 : decode cX8_wants 5 = .ok (.invokevirtual 219, 3) := by decide +kernel
theorem dX8_wants_8 : decode cX8_wants 8 = .ok (.ifCond .ne 5, 3) := by decide +kernel
theorem dX8_wants_11 : decode cX8_wants 11 = .ok (.iconst (-1), 1) := by decide +kernel
theorem dX8_wants_12 : decode cX8_wants 12 = .ok (.ireturn, 1) := by decide +kernel
theorem dX8_wants_13 : decode cX8_wants 13 = .ok (.aload_n 0, 1) := by decide +kernel
theorem dX8_wants_14 : decode cX8_wants 14 = .ok (.getfield 19, 3) := by decide +kernel
theorem dX8_wants_17 : decode cX8_wants 17 = .ok (.invokevirtual 170, 3) := by decide +kernel
theorem dX8_wants_20 : decode cX8_wants 20 = .ok (.bipush 7, 2) := by decide +kernel
theorem dX8_wants_22 : decode cX8_wants 22 = .ok (.if_icmp .le 6, 3) := by decide +kernel
theorem dX8_wants_25 : decode cX8_wants 25 = .ok (.bipush (-2), 2) := by decide +kernel
theorem dX8_wants_27 : decode cX8_wants 27 = .ok (.ireturn, 1) := by decide +kernel
theorem dX8_wants_28 : decode cX8_wants 28 = .ok (.aload_n 0, 1) := by decide +kernel
theorem dX8_wants_29 : decode cX8_wants 29 = .ok (.getfield 40, 3) := by decide +kernel
theorem dX8_wants_32 : decode cX8_wants 32 = .ok (.aload_n 0, 1) := by decide +kernel
theorem dX8_wants_33 : decode cX8_wants 33 = .ok (.getfield 10, 3) := by decide +kernel
theorem dX8_wants_36 : decode cX8_wants 36 = .ok (.aload_n 0, 1) := by decide +kernel
theorem dX8_wants_37 : decode cX8_wants 37 = .ok (.getfield 19, 3) := by decide +kernel
theorem dX8_wants_40 : decode cX8_wants 40 = .ok (.invokevirtual 199, 3) := by decide +kernel
theorem dX8_wants_43 : decode cX8_wants 43 = .ok (.aload_n 0, 1) := by decide +kernel
theorem dX8_wants_44 : decode cX8_wants 44 = .ok (.getfield 40, 3) := by decide +kernel
theorem dX8_wants_47 : decode cX8_wants 47 = .ok (.iload_n 1, 1) := by decide +kernel
theorem dX8_wants_48 : decode cX8_wants 48 = .ok (.invokevirtual 230, 3) := by decide +kernel
theorem dX8_wants_51 : decode cX8_wants 51 = .ok (.ireturn, 1) := by decide +kernel
set_option maxRecDepth 20000 in
theorem ggX8_lose_X8_isSide : GoodIn wsX8_lose wsX8_isSide := goodIn_r _ [8, 3, 9, 195, 196, 197, 198, 199, 200, 201, 202, 203, 204, 205, 206, 207, 208, 209, 210, 211] (by decide +kernel) (by decide +kernel)
set_option maxRecDepth 20000 in
theorem gX8_lose_X8_isSide : GoodIn wsX8_lose (wsV RX8 130 RX8 yX8_isSide wsX8_isSide) := goodIn_app (goodIn_of _ (by decide +kernel)) ggX8_lose_X8_isSide
set_option maxRecDepth 20000 in
theorem ggX8_lose_X0_openOnes : GoodIn wsX8_lose wsX0_openOnes := goodIn_r _ [14, 15, 16, 212, 213, 214, 215] (by decide +kernel) (by decide +kernel)
set_option maxRecDepth 20000 in
theorem gX8_lose_X0_openOnes : GoodIn wsX8_lose (wsV RX8 170 RX0 yX0_openOnes wsX0_openOnes) := goodIn_app (goodIn_of _ (by decide +kernel)) ggX8_lose_X0_openOnes
set_option maxRecDepth 20000 in
theorem ggX8_lose_X6_growPays : GoodIn wsX8_lose wsX6_growPays := goodIn_r _ [21, 22, 23, 24, 25, 26, 27, 28, 29, 20, 30, 31, 32, 33, 34, 35, 36, 37, 38, 39, 40, 41, 42, 43, 44, 45, 46, 47, 48, 49, 50, 51, 52, 53, 13, 54, 15, 55, 56, 16, 57, 7, 58, 59, 60, 61, 62, 63, 64, 65, 66, 67, 68, 69, 70, 71, 72, 73, 74, 75, 76, 77, 78, 79, 80, 81, 82, 83, 84, 85, 86, 87, 88, 89, 90, 91, 92, 93, 94, 95, 96, 97, 98, 99, 100, 101, 102, 103, 104, 105, 106, 107, 108, 109, 110, 111, 112, 113, 114, 115, 116, 117, 118, 119, 120, 121, 122, 123, 124, 125, 126, 127, 128, 129, 130, 131, 132, 133, 134, 135, 136, 137, 138, 139, 140, 141, 142, 143, 144, 145, 146, 147, 148, 149, 150, 151, 152, 153, 154, 216, 217, 218, 219, 220, 221, 222, 223, 224, 225, 226, 227, 228, 229, 212, 213, 214, 215, 204, 205, 206, 207, 208, 209, 210, 211, 230, 231, 232, 233, 234, 235, 236, 237] (by decide +kernel) (by decide +kernel)
set_option maxRecDepth 20000 in
theorem gX8_lose_X6_growPays : GoodIn wsX8_lose (wsV RX8 199 RX6 yX6_growPays wsX6_growPays) := goodIn_app (goodIn_of _ (by decide +kernel)) ggX8_lose_X6_growPays
set_option maxRecDepth 20000 in
theorem ggX8_lose_X6_firstUnwanted : GoodIn wsX8_lose wsX6_firstUnwanted := goodIn_r _ [158, 22, 25, 33, 159, 160, 161, 13, 162, 55, 56, 163, 164, 165, 166, 15, 167, 168, 169, 20, 170, 171, 172, 173, 174, 36, 175, 176, 177, 178, 179, 26, 34, 180, 181, 182, 216, 217, 218, 219, 220, 221, 222, 223, 224, 225, 226, 227, 228, 229, 212, 213, 214, 215] (by decide +kernel) (by decide +kernel)
set_option maxRecDepth 20000 in
theorem gX8_lose_X6_firstUnwanted : GoodIn wsX8_lose (wsV RX8 233 RX6 yX6_firstUnwanted wsX6_firstUnwanted) := goodIn_app (goodIn_of _ (by decide +kernel)) ggX8_lose_X6_firstUnwanted
set_option maxRecDepth 20000 in
theorem ggX8_lose_X6_firstUnwantedByBoth : GoodIn wsX8_lose wsX6_firstUnwantedByBoth := goodIn_r _ [186, 22, 33, 187, 188, 189, 20, 190, 25, 36, 37, 167, 168, 169, 170, 171, 172, 173, 174, 175, 176, 177, 178, 179, 26, 34, 180, 181, 182, 216, 217, 218, 219, 220, 221, 222, 223, 224, 225, 226, 227, 228, 229, 212, 213, 214, 215] (by decide +kernel) (by decide +kernel)
set_option maxRecDepth 20000 in
theorem gX8_lose_X6_firstUnwantedByBoth : GoodIn wsX8_lose (wsV RX8 236 RX6 yX6_firstUnwantedByBoth wsX6_firstUnwantedByBoth) := goodIn_app (goodIn_of _ (by decide +kernel)) ggX8_lose_X6_firstUnwantedByBoth
set_option maxRecDepth 20000 in
theorem ggX8_lose_X6_howManyUnwanted : GoodIn wsX8_lose wsX6_howManyUnwanted := goodIn_r _ [194, 22, 25, 33, 159, 160, 161, 13, 162, 55, 56, 163, 164, 165, 166, 15, 167, 168, 169, 20, 170, 171, 172, 173, 174, 36, 175, 176, 177, 178, 179, 26, 34, 180, 181, 182, 216, 217, 218, 219, 220, 221, 222, 223, 224, 225, 226, 227, 228, 229, 212, 213, 214, 215] (by decide +kernel) (by decide +kernel)
set_option maxRecDepth 20000 in
theorem gX8_lose_X6_howManyUnwanted : GoodIn wsX8_lose (wsV RX8 239 RX6 yX6_howManyUnwanted wsX6_howManyUnwanted) := goodIn_app (goodIn_of _ (by decide +kernel)) ggX8_lose_X6_howManyUnwanted
theorem dX8_lose_0 : decode cX8_lose 0 = .ok (.iload_n 2, 1) := by decide +kernel
theorem dX8_lose_1 : decode cX8_lose 1 = .ok (.ifCond .lt 21, 3) := by decide +kernel
theorem dX8_lose_4 : decode cX8_lose 4 = .ok (.iload_n 2, 1) := by decide +kernel
theorem dX8_lose_5 : decode cX8_lose 5 = .ok (.iconst 2, 1) := by decide +kernel
theorem dX8_lose_6 : decode cX8_lose 6 = .ok (.if_icmp .gt 16, 3) := by decide +kernel
theorem dX8_lose_9 : decode cX8_lose 9 = .ok (.iload_n 2, 1) := by decide +kernel
theorem dX8_lose_10 : decode cX8_lose 10 = .ok (.iconst 1, 1) := by decide +kernel
theorem dX8_lose_11 : decode cX8_lose 11 = .ok (.if_icmp .eq 13, 3) := by decide +kernel
theorem dX8_lose_14 : decode cX8_lose 14 = .ok (.aload_n 0, 1) := by decide +kernel
theorem dX8_lose_15 : decode cX8_lose 15 = .ok (.iload_n 1, 1) := by decide +kernel
theorem dX8_lose_16 : decode cX8_lose 16 = .ok (.invokevirtual 130, 3) := by decide +kernel
theorem dX8_lose_19 : decode cX8_lose 19 = .ok (.ifCond .ne 5, 3) := by decide +kernel
theorem dX8_lose_22 : decode cX8_lose 22 = .ok (.iconst (-1), 1) := by decide +kernel
theorem dX8_lose_23 : decode cX8_lose 23 = .ok (.ireturn, 1) := by decide +kernel
theorem dX8_lose_24 : decode cX8_lose 24 = .ok (.aload_n 0, 1) := by decide +kernel
theorem dX8_lose_25 : decode cX8_lose 25 = .ok (.getfield 19, 3) := by decide +kernel
theorem dX8_lose_28 : decode cX8_lose 28 = .ok (.invokevirtual 170, 3) := by decide +kernel
theorem dX8_lose_31 : decode cX8_lose 31 = .ok (.bipush 7, 2) := by decide +kernel
theorem dX8_lose_33 : decode cX8_lose 33 = .ok (.if_icmp .le 6, 3) := by decide +kernel
theorem dX8_lose_36 : decode cX8_lose 36 = .ok (.bipush (-2), 2) := by decide +kernel
theorem dX8_lose_38 : decode cX8_lose 38 = .ok (.ireturn, 1) := by decide +kernel
theorem dX8_lose_39 : decode cX8_lose 39 = .ok (.aload_n 0, 1) := by decide +kernel
theorem dX8_lose_40 : decode cX8_lose 40 = .ok (.getfield 40, 3) := by decide +kernel
theorem dX8_lose_43 : decode cX8_lose 43 = .ok (.aload_n 0, 1) := by decide +kernel
theorem dX8_lose_44 : decode cX8_lose 44 = .ok (.getfield 10, 3) := by decide +kernel
theorem dX8_lose_47 : decode cX8_lose 47 = .ok (.aload_n 0, 1) := by decide +kernel
theorem dX8_lose_48 : decode cX8_lose 48 = .ok (.getfield 19, 3) := by decide +kernel
theorem dX8_lose_51 : decode cX8_lose 51 = .ok (.invokevirtual 199, 3) := by decide +kernel
theorem dX8_lose_54 : decode cX8_lose 54 = .ok (.iload_n 2, 1) := by decide +kernel
theorem dX8_lose_55 : decode cX8_lose 55 = .ok (.lookupswitch 42 #[(0, 25), (1, 34)], 25) := by decide +kernel
theorem dX8_lose_80 : decode cX8_lose 80 = .ok (.aload_n 0, 1) := by decide +kernel
theorem dX8_lose_81 : decode cX8_lose 81 = .ok (.getfield 40, 3) := by decide +kernel
theorem dX8_lose_84 : decode cX8_lose 84 = .ok (.iload_n 1, 1) := by decide +kernel
theorem dX8_lose_85 : decode cX8_lose 85 = .ok (.invokevirtual 233, 3) := by decide +kernel
theorem dX8_lose_88 : decode cX8_lose 88 = .ok (.ireturn, 1) := by decide +kernel
theorem dX8_lose_89 : decode cX8_lose 89 = .ok (.aload_n 0, 1) := by decide +kernel
theorem dX8_lose_90 : decode cX8_lose 90 = .ok (.getfield 40, 3) := by decide +kernel
theorem dX8_lose_93 : decode cX8_lose 93 = .ok (.invokevirtual 236, 3) := by decide +kernel
theorem dX8_lose_96 : decode cX8_lose 96 = .ok (.ireturn, 1) := by decide +kernel
theorem dX8_lose_97 : decode cX8_lose 97 = .ok (.aload_n 0, 1) := by decide +kernel
theorem dX8_lose_98 : decode cX8_lose 98 = .ok (.getfield 40, 3) := by decide +kernel
theorem dX8_lose_101 : decode cX8_lose 101 = .ok (.iload_n 1, 1) := by decide +kernel
theorem dX8_lose_102 : decode cX8_lose 102 = .ok (.invokevirtual 239, 3) := by decide +kernel
theorem dX8_lose_105 : decode cX8_lose 105 = .ok (.ireturn, 1) := by decide +kernel
set_option maxRecDepth 20000 in
theorem ggX8_odds_X8_isSide : GoodIn wsX8_odds wsX8_isSide := goodIn_r _ [10, 5, 11, 114, 115, 116, 117, 118, 119, 120, 121, 122, 123, 124, 125, 126, 127, 128, 129, 130] (by decide +kernel) (by decide +kernel)
set_option maxRecDepth 20000 in
theorem gX8_odds_X8_isSide : GoodIn wsX8_odds (wsV RX8 130 RX8 yX8_isSide wsX8_isSide) := goodIn_app (goodIn_of _ (by decide +kernel)) ggX8_odds_X8_isSide
set_option maxRecDepth 20000 in
theorem ggX8_odds_X8_isPart : GoodIn wsX8_odds wsX8_isPart := goodIn_r _ [14] (by decide +kernel) (by decide +kernel)
set_option maxRecDepth 20000 in
theorem gX8_odds_X8_isPart : GoodIn wsX8_odds (va_wsS RX8 196 yX8_isPart wsX8_isPart) := goodIn_app (goodIn_of _ (by decide +kernel)) ggX8_odds_X8_isPart
set_option maxRecDepth 20000 in
theorem ggX8_odds_X0_openOnes : GoodIn wsX8_odds wsX0_openOnes := goodIn_r _ [19, 20, 21, 131, 132, 133, 134] (by decide +kernel) (by decide +kernel)
set_option maxRecDepth 20000 in
theorem gX8_odds_X0_openOnes : GoodIn wsX8_odds (wsV RX8 170 RX0 yX0_openOnes wsX0_openOnes) := goodIn_app (goodIn_of _ (by decide +kernel)) ggX8_odds_X0_openOnes
set_option maxRecDepth 20000 in
theorem ggX8_odds_X6_growPlace : GoodIn wsX8_odds wsX6_growPlace := goodIn_r _ [26, 27, 28, 29, 30, 31, 32, 33, 25, 34, 35, 36, 37, 38, 39, 40, 41, 42, 43, 44, 45, 46, 47, 48, 49, 50, 51, 52, 53, 54, 55, 56, 57, 58, 59, 18, 60, 20, 61, 62, 21, 63, 9, 64, 65, 66, 67, 68, 69, 70, 71, 72, 73, 74, 75, 76, 77, 78, 79, 80, 81, 82, 83, 84, 85, 86, 87, 88, 89, 90, 91, 135, 136, 137, 138, 139, 140, 141, 142, 143, 144, 145, 146, 147, 148, 149, 150, 151, 152, 153, 154, 155, 156, 131, 132, 133, 134, 123, 124, 125, 126, 127, 128, 129, 130] (by decide +kernel) (by decide +kernel)
set_option maxRecDepth 20000 in
theorem gX8_odds_X6_growPlace : GoodIn wsX8_odds (wsV RX8 242 RX6 yX6_growPlace wsX6_growPlace) := goodIn_app (goodIn_of _ (by decide +kernel)) ggX8_odds_X6_growPlace
set_option maxRecDepth 20000 in
theorem ggX8_odds_X6_expected : GoodIn wsX8_odds wsX6_expected := goodIn_r _ [95, 96, 97, 98, 25, 99, 27, 100, 28, 40, 39, 101, 102, 103, 135, 136, 137, 138, 139, 140, 141, 142, 143, 144, 145, 146, 147, 148] (by decide +kernel) (by decide +kernel)
set_option maxRecDepth 20000 in
theorem gX8_odds_X6_expected : GoodIn wsX8_odds (wsV RX8 203 RX6 yX6_expected wsX6_expected) := goodIn_app (goodIn_of _ (by decide +kernel)) ggX8_odds_X6_expected
set_option maxRecDepth 20000 in
theorem ggX8_odds_X6_allChances : GoodIn wsX8_odds wsX6_allChances := goodIn_r _ [107, 27, 135, 136, 137, 138, 139, 140, 141, 142, 143, 144, 145, 146, 147, 148] (by decide +kernel) (by decide +kernel)
set_option maxRecDepth 20000 in
theorem gX8_odds_X6_allChances : GoodIn wsX8_odds (wsV RX8 246 RX6 yX6_allChances wsX6_allChances) := goodIn_app (goodIn_of _ (by decide +kernel)) ggX8_odds_X6_allChances
set_option maxRecDepth 20000 in
theorem ggX8_odds_X8_part : GoodIn wsX8_odds wsX8_part := goodIn_r _ [110, 111, 112, 9, 113] (by decide +kernel) (by decide +kernel)
set_option maxRecDepth 20000 in
theorem gX8_odds_X8_part : GoodIn wsX8_odds (va_wsS RX8 211 yX8_part wsX8_part) := goodIn_app (goodIn_of _ (by decide +kernel)) ggX8_odds_X8_part
theorem dX8_odds_0 : decode cX8_odds 0 = .ok (.aload_n 0, 1) := by decide +kernel
theorem dX8_odds_1 : decode cX8_odds 1 = .ok (.iload_n 1, 1) := by decide +kernel
theorem dX8_odds_2 : decode cX8_odds 2 = .ok (.invokevirtual 130, 3) := by decide +kernel
theorem dX8_odds_5 : decode cX8_odds 5 = .ok (.ifCond .eq 18, 3) := by decide +kernel
theorem dX8_odds_8 : decode cX8_odds 8 = .ok (.aload_n 0, 1) := by decide +kernel
theorem dX8_odds_9 : decode cX8_odds 9 = .ok (.iload_n 2, 1) := by decide +kernel
theorem dX8_odds_10 : decode cX8_odds 10 = .ok (.invokevirtual 130, 3) := by decide +kernel
theorem dX8_odds_13 : decode cX8_odds 13 = .ok (.ifCond .eq 10, 3) := by decide +kernel
theorem dX8_odds_16 : decode cX8_odds 16 = .ok (.iload_n 3, 1) := by decide +kernel
theorem dX8_odds_17 : decode cX8_odds 17 = .ok (.invokestatic 196, 3) := by decide +kernel
theorem dX8_odds_20 : decode cX8_odds 20 = .ok (.ifCond .ne 7, 3) := by decide +kernel
theorem dX8_odds_23 : decode cX8_odds 23 = .ok (.ldc2_w 215, 3) := by decide +kernel
theorem dX8_odds_26 : decode cX8_odds 26 = .ok (.lreturn, 1) := by decide +kernel
theorem dX8_odds_27 : decode cX8_odds 27 = .ok (.aload_n 0, 1) := by decide +kernel
theorem dX8_odds_28 : decode cX8_odds 28 = .ok (.getfield 19, 3) := by decide +kernel
theorem dX8_odds_31 : decode cX8_odds 31 = .ok (.invokevirtual 170, 3) := by decide +kernel
theorem dX8_odds_34 : decode cX8_odds 34 = .ok (.bipush 7, 2) := by decide +kernel
theorem dX8_odds_36 : decode cX8_odds 36 = .ok (.if_icmp .le 7, 3) := by decide +kernel
theorem dX8_odds_39 : decode cX8_odds 39 = .ok (.ldc2_w 217, 3) := by decide +kernel
theorem dX8_odds_42 : decode cX8_odds 42 = .ok (.lreturn, 1) := by decide +kernel
theorem dX8_odds_43 : decode cX8_odds 43 = .ok (.aload_n 0, 1) := by decide +kernel
theorem dX8_odds_44 : decode cX8_odds 44 = .ok (.getfield 40, 3) := by decide +kernel
theorem dX8_odds_47 : decode cX8_odds 47 = .ok (.aload_n 0, 1) := by decide +kernel
theorem dX8_odds_48 : decode cX8_odds 48 = .ok (.getfield 10, 3) := by decide +kernel
theorem dX8_odds_51 : decode cX8_odds 51 = .ok (.aload_n 0, 1) := by decide +kernel
theorem dX8_odds_52 : decode cX8_odds 52 = .ok (.getfield 19, 3) := by decide +kernel
theorem dX8_odds_55 : decode cX8_odds 55 = .ok (.iload_n 1, 1) := by decide +kernel
theorem dX8_odds_56 : decode cX8_odds 56 = .ok (.iload_n 2, 1) := by decide +kernel
theorem dX8_odds_57 : decode cX8_odds 57 = .ok (.invokevirtual 242, 3) := by decide +kernel
theorem dX8_odds_60 : decode cX8_odds 60 = .ok (.aload_n 0, 1) := by decide +kernel
theorem dX8_odds_61 : decode cX8_odds 61 = .ok (.getfield 40, 3) := by decide +kernel
theorem dX8_odds_64 : decode cX8_odds 64 = .ok (.iload_n 1, 1) := by decide +kernel
theorem dX8_odds_65 : decode cX8_odds 65 = .ok (.invokevirtual 203, 3) := by decide +kernel
theorem dX8_odds_68 : decode cX8_odds 68 = .ok (.aload_n 0, 1) := by decide +kernel
theorem dX8_odds_69 : decode cX8_odds 69 = .ok (.getfield 40, 3) := by decide +kernel
theorem dX8_odds_72 : decode cX8_odds 72 = .ok (.invokevirtual 246, 3) := by decide +kernel
theorem dX8_odds_75 : decode cX8_odds 75 = .ok (.iload_n 3, 1) := by decide +kernel
theorem dX8_odds_76 : decode cX8_odds 76 = .ok (.invokestatic 211, 3) := by decide +kernel
theorem dX8_odds_79 : decode cX8_odds 79 = .ok (.lreturn, 1) := by decide +kernel
set_option maxRecDepth 20000 in
theorem ggX8_play_X0_openOnes : GoodIn wsX8_play wsX0_openOnes := goodIn_r _ [11, 12, 13, 205, 206, 207, 208] (by decide +kernel) (by decide +kernel)
set_option maxRecDepth 20000 in
theorem gX8_play_X0_openOnes : GoodIn wsX8_play (wsV RX8 170 RX0 yX0_openOnes wsX0_openOnes) := goodIn_app (goodIn_of _ (by decide +kernel)) ggX8_play_X0_openOnes
set_option maxRecDepth 20000 in
theorem ggX8_play_X6_growPays : GoodIn wsX8_play wsX6_growPays := goodIn_r _ [18, 19, 20, 21, 22, 23, 24, 25, 26, 17, 27, 28, 29, 30, 31, 32, 33, 34, 35, 36, 37, 38, 39, 40, 41, 42, 43, 44, 45, 46, 47, 48, 49, 50, 10, 51, 12, 52, 53, 13, 54, 55, 56, 57, 58, 59, 60, 61, 62, 63, 64, 65, 66, 67, 68, 69, 70, 71, 72, 73, 74, 75, 76, 77, 78, 79, 80, 81, 82, 83, 84, 85, 86, 87, 88, 89, 90, 91, 92, 93, 94, 95, 96, 97, 98, 99, 100, 101, 102, 103, 104, 105, 106, 107, 108, 109, 110, 111, 112, 113, 114, 115, 116, 117, 118, 119, 120, 121, 122, 123, 124, 125, 126, 127, 128, 129, 130, 131, 132, 133, 134, 135, 136, 137, 138, 139, 140, 141, 142, 143, 144, 145, 146, 147, 148, 149, 150, 151, 152, 191, 192, 193, 194, 195, 196, 197, 198, 199, 200, 201, 202, 203, 204, 205, 206, 207, 208, 209, 210, 211, 212, 213, 214, 215, 216, 217, 218, 219, 220, 221, 222, 223, 224] (by decide +kernel) (by decide +kernel)
set_option maxRecDepth 20000 in
theorem gX8_play_X6_growPays : GoodIn wsX8_play (wsV RX8 199 RX6 yX6_growPays wsX6_growPays) := goodIn_app (goodIn_of _ (by decide +kernel)) ggX8_play_X6_growPays
set_option maxRecDepth 20000 in
theorem ggX8_play_X6_playBack : GoodIn wsX8_play wsX6_playBack := goodIn_r _ [156, 19, 157, 158, 21, 68, 159, 23, 160, 161, 162, 17, 163, 32, 22, 33, 30, 34, 164, 55, 165, 61, 62, 59, 63, 54, 56, 57, 58, 60, 166, 167, 168, 169, 170, 171, 172, 173, 174, 175, 176, 177, 178, 179, 180, 181, 191, 192, 193, 194, 195, 196, 197, 198, 199, 200, 201, 202, 203, 204, 209, 210, 211, 212, 213, 214, 215, 216, 205, 206, 207, 208] (by decide +kernel) (by decide +kernel)
set_option maxRecDepth 20000 in
theorem gX8_play_X6_playBack : GoodIn wsX8_play (wsV RX8 249 RX6 yX6_playBack wsX6_playBack) := goodIn_app (goodIn_of _ (by decide +kernel)) ggX8_play_X6_playBack
theorem dX8_play_0 : decode cX8_play 0 = .ok (.iload_n 1, 1) := by decide +kernel
theorem dX8_play_1 : decode cX8_play 1 = .ok (.ifCond .lt 8, 3) := by decide +kernel
theorem dX8_play_4 : decode cX8_play 4 = .ok (.iload_n 1, 1) := by decide +kernel
theorem dX8_play_5 : decode cX8_play 5 = .ok (.iconst 2, 1) := by decide +kernel
theorem dX8_play_6 : decode cX8_play 6 = .ok (.if_icmp .le 5, 3) := by decide +kernel
theorem dX8_play_9 : decode cX8_play 9 = .ok (.iconst (-1), 1) := by decide +kernel
theorem dX8_play_10 : decode cX8_play 10 = .ok (.ireturn, 1) := by decide +kernel
theorem dX8_play_11 : decode cX8_play 11 = .ok (.aload_n 0, 1) := by decide +kernel
theorem dX8_play_12 : decode cX8_play 12 = .ok (.getfield 19, 3) := by decide +kernel
theorem dX8_play_15 : decode cX8_play 15 = .ok (.invokevirtual 170, 3) := by decide +kernel
theorem dX8_play_18 : decode cX8_play 18 = .ok (.istore_n 2, 1) := by decide +kernel
theorem dX8_play_19 : decode cX8_play 19 = .ok (.iload_n 2, 1) := by decide +kernel
theorem dX8_play_20 : decode cX8_play 20 = .ok (.iconst 5, 1) := by decide +kernel
theorem dX8_play_21 : decode cX8_play 21 = .ok (.if_icmp .gt 7, 3) := by decide +kernel
theorem dX8_play_24 : decode cX8_play 24 = .ok (.iload_n 2, 1) := by decide +kernel
theorem dX8_play_25 : decode cX8_play 25 = .ok (.ifCond .ne 6, 3) := by decide +kernel
theorem dX8_play_28 : decode cX8_play 28 = .ok (.bipush (-2), 2) := by decide +kernel
theorem dX8_play_30 : decode cX8_play 30 = .ok (.ireturn, 1) := by decide +kernel
theorem dX8_play_31 : decode cX8_play 31 = .ok (.aload_n 0, 1) := by decide +kernel
theorem dX8_play_32 : decode cX8_play 32 = .ok (.getfield 40, 3) := by decide +kernel
theorem dX8_play_35 : decode cX8_play 35 = .ok (.aload_n 0, 1) := by decide +kernel
theorem dX8_play_36 : decode cX8_play 36 = .ok (.getfield 10, 3) := by decide +kernel
theorem dX8_play_39 : decode cX8_play 39 = .ok (.aload_n 0, 1) := by decide +kernel
theorem dX8_play_40 : decode cX8_play 40 = .ok (.getfield 19, 3) := by decide +kernel
theorem dX8_play_43 : decode cX8_play 43 = .ok (.invokevirtual 199, 3) := by decide +kernel
theorem dX8_play_46 : decode cX8_play 46 = .ok (.aload_n 0, 1) := by decide +kernel
theorem dX8_play_47 : decode cX8_play 47 = .ok (.getfield 40, 3) := by decide +kernel
theorem dX8_play_50 : decode cX8_play 50 = .ok (.invokevirtual 249, 3) := by decide +kernel
theorem dX8_play_53 : decode cX8_play 53 = .ok (.iload_n 1, 1) := by decide +kernel
theorem dX8_play_54 : decode cX8_play 54 = .ok (.lookupswitch 50 #[(0, 26), (1, 34)], 26) := by decide +kernel
theorem dX8_play_80 : decode cX8_play 80 = .ok (.aload_n 0, 1) := by decide +kernel
theorem dX8_play_81 : decode cX8_play 81 = .ok (.getfield 40, 3) := by decide +kernel
theorem dX8_play_84 : decode cX8_play 84 = .ok (.getfield 252, 3) := by decide +kernel
theorem dX8_play_87 : decode cX8_play 87 = .ok (.ireturn, 1) := by decide +kernel
theorem dX8_play_88 : decode cX8_play 88 = .ok (.aload_n 0, 1) := by decide +kernel
theorem dX8_play_89 : decode cX8_play 89 = .ok (.getfield 40, 3) := by decide +kernel
theorem dX8_play_92 : decode cX8_play 92 = .ok (.getfield 255, 3) := by decide +kernel
theorem dX8_play_95 : decode cX8_play 95 = .ok (.ifCond .eq 7, 3) := by decide +kernel
theorem dX8_play_98 : decode cX8_play 98 = .ok (.iconst 1, 1) := by decide +kernel
theorem dX8_play_99 : decode cX8_play 99 = .ok (.goto 4, 3) := by decide +kernel
theorem dX8_play_102 : decode cX8_play 102 = .ok (.iconst 0, 1) := by decide +kernel
theorem dX8_play_103 : decode cX8_play 103 = .ok (.ireturn, 1) := by decide +kernel
theorem dX8_play_104 : decode cX8_play 104 = .ok (.aload_n 0, 1) := by decide +kernel
theorem dX8_play_105 : decode cX8_play 105 = .ok (.getfield 40, 3) := by decide +kernel
theorem dX8_play_108 : decode cX8_play 108 = .ok (.getfield 259, 3) := by decide +kernel
theorem dX8_play_111 : decode cX8_play 111 = .ok (.iconst 0, 1) := by decide +kernel
theorem dX8_play_112 : decode cX8_play 112 = .ok (.iaload, 1) := by decide +kernel
theorem dX8_play_113 : decode cX8_play 113 = .ok (.ireturn, 1) := by decide +kernel
set_option maxRecDepth 20000 in
theorem ggX8_played_X8_isSide : GoodIn wsX8_played wsX8_isSide := goodIn_r _ [11, 5, 12, 205, 206, 207, 208, 209, 210, 211, 212, 213, 228, 229, 230, 231, 232, 233, 234, 235] (by decide +kernel) (by decide +kernel)
set_option maxRecDepth 20000 in
theorem gX8_played_X8_isSide : GoodIn wsX8_played (wsV RX8 130 RX8 yX8_isSide wsX8_isSide) := goodIn_app (goodIn_of _ (by decide +kernel)) ggX8_played_X8_isSide
set_option maxRecDepth 20000 in
theorem ggX8_played_X8_isPart : GoodIn wsX8_played wsX8_isPart := goodIn_r _ [15] (by decide +kernel) (by decide +kernel)
set_option maxRecDepth 20000 in
theorem gX8_played_X8_isPart : GoodIn wsX8_played (va_wsS RX8 196 yX8_isPart wsX8_isPart) := goodIn_app (goodIn_of _ (by decide +kernel)) ggX8_played_X8_isPart
set_option maxRecDepth 20000 in
theorem ggX8_played_X0_openOnes : GoodIn wsX8_played wsX0_openOnes := goodIn_r _ [20, 21, 22, 236, 237, 238, 239] (by decide +kernel) (by decide +kernel)
set_option maxRecDepth 20000 in
theorem gX8_played_X0_openOnes : GoodIn wsX8_played (wsV RX8 170 RX0 yX0_openOnes wsX0_openOnes) := goodIn_app (goodIn_of _ (by decide +kernel)) ggX8_played_X0_openOnes
set_option maxRecDepth 20000 in
theorem ggX8_played_X6_growPays : GoodIn wsX8_played wsX6_growPays := goodIn_r _ [27, 28, 29, 30, 31, 32, 33, 34, 35, 26, 36, 37, 38, 39, 40, 41, 42, 43, 44, 45, 46, 47, 48, 49, 50, 51, 52, 53, 54, 55, 56, 57, 58, 59, 19, 60, 21, 61, 62, 22, 63, 10, 64, 65, 66, 67, 68, 69, 70, 71, 72, 73, 74, 75, 76, 77, 78, 79, 80, 81, 82, 83, 84, 85, 86, 87, 88, 89, 90, 91, 92, 93, 94, 95, 96, 97, 98, 99, 100, 101, 102, 103, 104, 105, 106, 107, 108, 109, 110, 111, 112, 113, 114, 115, 116, 117, 118, 119, 120, 121, 122, 123, 124, 125, 126, 127, 128, 129, 130, 131, 132, 133, 134, 135, 136, 137, 138, 139, 140, 141, 142, 143, 144, 145, 146, 147, 148, 149, 150, 151, 152, 153, 154, 155, 156, 157, 158, 159, 160, 214, 215, 216, 217, 218, 219, 220, 221, 222, 223, 224, 225, 226, 227, 236, 237, 238, 239, 228, 229, 230, 231, 232, 233, 234, 235, 240, 241, 242, 243, 244, 245, 246, 247] (by decide +kernel) (by decide +kernel)
set_option maxRecDepth 20000 in
theorem gX8_played_X6_growPays : GoodIn wsX8_played (wsV RX8 199 RX6 yX6_growPays wsX6_growPays) := goodIn_app (goodIn_of _ (by decide +kernel)) ggX8_played_X6_growPays
set_option maxRecDepth 20000 in
theorem ggX8_played_X6_playBack : GoodIn wsX8_played wsX6_playBack := goodIn_r _ [164, 28, 165, 166, 30, 76, 167, 32, 168, 169, 170, 26, 171, 41, 31, 42, 39, 43, 172, 10, 173, 69, 70, 67, 71, 63, 64, 65, 66, 68, 174, 175, 176, 177, 178, 179, 180, 181, 182, 183, 184, 185, 186, 187, 188, 189, 214, 215, 216, 217, 218, 219, 220, 221, 222, 223, 224, 225, 226, 227, 228, 229, 230, 231, 232, 233, 234, 235, 236, 237, 238, 239] (by decide +kernel) (by decide +kernel)
set_option maxRecDepth 20000 in
theorem gX8_played_X6_playBack : GoodIn wsX8_played (wsV RX8 249 RX6 yX6_playBack wsX6_playBack) := goodIn_app (goodIn_of _ (by decide +kernel)) ggX8_played_X6_playBack
set_option maxRecDepth 20000 in
theorem ggX8_played_X6_scale : GoodIn wsX8_played wsX6_scale := goodIn_r _ [193, 30, 194, 195, 196, 26, 197, 28, 198, 100, 101, 47, 102, 50, 103, 70, 67, 71, 49, 104, 105, 106, 107, 55, 214, 215, 216, 217, 218, 219, 220, 221, 222, 223, 224, 225, 226, 227, 228, 229, 230, 231, 232, 233, 234, 235] (by decide +kernel) (by decide +kernel)
set_option maxRecDepth 20000 in
theorem gX8_played_X6_scale : GoodIn wsX8_played (wsV RX8 207 RX6 yX6_scale wsX6_scale) := goodIn_app (goodIn_of _ (by decide +kernel)) ggX8_played_X6_scale
set_option maxRecDepth 20000 in
theorem ggX8_played_X8_part : GoodIn wsX8_played wsX8_part := goodIn_r _ [201, 202, 203, 10, 204] (by decide +kernel) (by decide +kernel)
set_option maxRecDepth 20000 in
theorem gX8_played_X8_part : GoodIn wsX8_played (va_wsS RX8 211 yX8_part wsX8_part) := goodIn_app (goodIn_of _ (by decide +kernel)) ggX8_played_X8_part
theorem dX8_played_0 : decode cX8_played 0 = .ok (.aload_n 0, 1) := by decide +kernel
theorem dX8_played_1 : decode cX8_played 1 = .ok (.iload_n 1, 1) := by decide +kernel
theorem dX8_played_2 : decode cX8_played 2 = .ok (.invokevirtual 130, 3) := by decide +kernel
theorem dX8_played_5 : decode cX8_played 5 = .ok (.ifCond .eq 10, 3) := by decide +kernel
theorem dX8_played_8 : decode cX8_played 8 = .ok (.iload_n 2, 1) := by decide +kernel
theorem dX8_played_9 : decode cX8_played 9 = .ok (.invokestatic 196, 3) := by decide +kernel
theorem dX8_played_12 : decode cX8_played 12 = .ok (.ifCond .ne 7, 3) := by decide +kernel
theorem dX8_played_15 : decode cX8_played 15 = .ok (.ldc2_w 215, 3) := by decide +kernel
theorem dX8_played_18 : decode cX8_played 18 = .ok (.lreturn, 1) := by decide +kernel
theorem dX8_played_19 : decode cX8_played 19 = .ok (.aload_n 0, 1) := by decide +kernel
theorem dX8_played_20 : decode cX8_played 20 = .ok (.getfield 19, 3) := by decide +kernel
theorem dX8_played_23 : decode cX8_played 23 = .ok (.invokevirtual 170, 3) := by decide +kernel
theorem dX8_played_26 : decode cX8_played 26 = .ok (.iconst 5, 1) := by decide +kernel
theorem dX8_played_27 : decode cX8_played 27 = .ok (.if_icmp .le 7, 3) := by decide +kernel
theorem dX8_played_30 : decode cX8_played 30 = .ok (.ldc2_w 217, 3) := by decide +kernel
theorem dX8_played_33 : decode cX8_played 33 = .ok (.lreturn, 1) := by decide +kernel
theorem dX8_played_34 : decode cX8_played 34 = .ok (.aload_n 0, 1) := by decide +kernel
theorem dX8_played_35 : decode cX8_played 35 = .ok (.getfield 40, 3) := by decide +kernel
theorem dX8_played_38 : decode cX8_played 38 = .ok (.aload_n 0, 1) := by decide +kernel
theorem dX8_played_39 : decode cX8_played 39 = .ok (.getfield 10, 3) := by decide +kernel
theorem dX8_played_42 : decode cX8_played 42 = .ok (.aload_n 0, 1) := by decide +kernel
theorem dX8_played_43 : decode cX8_played 43 = .ok (.getfield 19, 3) := by decide +kernel
theorem dX8_played_46 : decode cX8_played 46 = .ok (.invokevirtual 199, 3) := by decide +kernel
theorem dX8_played_49 : decode cX8_played 49 = .ok (.aload_n 0, 1) := by decide +kernel
theorem dX8_played_50 : decode cX8_played 50 = .ok (.getfield 40, 3) := by decide +kernel
theorem dX8_played_53 : decode cX8_played 53 = .ok (.invokevirtual 249, 3) := by decide +kernel
theorem dX8_played_56 : decode cX8_played 56 = .ok (.aload_n 0, 1) := by decide +kernel
theorem dX8_played_57 : decode cX8_played 57 = .ok (.getfield 40, 3) := by decide +kernel
theorem dX8_played_60 : decode cX8_played 60 = .ok (.getfield 262, 3) := by decide +kernel
theorem dX8_played_63 : decode cX8_played 63 = .ok (.iload_n 1, 1) := by decide +kernel
theorem dX8_played_64 : decode cX8_played 64 = .ok (.laload, 1) := by decide +kernel
theorem dX8_played_65 : decode cX8_played 65 = .ok (.aload_n 0, 1) := by decide +kernel
theorem dX8_played_66 : decode cX8_played 66 = .ok (.getfield 40, 3) := by decide +kernel
theorem dX8_played_69 : decode cX8_played 69 = .ok (.invokevirtual 207, 3) := by decide +kernel
theorem dX8_played_72 : decode cX8_played 72 = .ok (.iload_n 2, 1) := by decide +kernel
theorem dX8_played_73 : decode cX8_played 73 = .ok (.invokestatic 211, 3) := by decide +kernel
theorem dX8_played_76 : decode cX8_played 76 = .ok (.lreturn, 1) := by decide +kernel
set_option maxRecDepth 20000 in
theorem ggX8_pays_X0_openOnes : GoodIn wsX8_pays wsX0_openOnes := goodIn_r _ [11, 12, 13, 193, 194, 195, 196] (by decide +kernel) (by decide +kernel)
set_option maxRecDepth 20000 in
theorem gX8_pays_X0_openOnes : GoodIn wsX8_pays (wsV RX8 170 RX0 yX0_openOnes wsX0_openOnes) := goodIn_app (goodIn_of _ (by decide +kernel)) ggX8_pays_X0_openOnes
set_option maxRecDepth 20000 in
theorem ggX8_pays_X6_growPays : GoodIn wsX8_pays wsX6_growPays := goodIn_r _ [18, 19, 20, 21, 22, 23, 24, 25, 26, 17, 27, 28, 29, 30, 31, 32, 33, 34, 35, 36, 37, 38, 39, 40, 41, 42, 43, 44, 45, 46, 47, 48, 49, 50, 10, 51, 12, 52, 53, 13, 54, 55, 56, 57, 58, 59, 60, 61, 62, 63, 64, 65, 66, 67, 68, 69, 70, 71, 72, 73, 74, 75, 76, 77, 78, 79, 80, 81, 82, 83, 84, 85, 86, 87, 88, 89, 90, 91, 92, 93, 94, 95, 96, 97, 98, 99, 100, 101, 102, 103, 104, 105, 106, 107, 108, 109, 110, 111, 112, 113, 114, 115, 116, 117, 118, 119, 120, 121, 122, 123, 124, 125, 126, 127, 128, 129, 130, 131, 132, 133, 134, 135, 136, 137, 138, 139, 140, 141, 142, 143, 144, 145, 146, 147, 148, 149, 150, 151, 152, 179, 180, 181, 182, 183, 184, 185, 186, 187, 188, 189, 190, 191, 192, 193, 194, 195, 196, 197, 198, 199, 200, 201, 202, 203, 204, 205, 206, 207, 208, 209, 210, 211, 212] (by decide +kernel) (by decide +kernel)
set_option maxRecDepth 20000 in
theorem gX8_pays_X6_growPays : GoodIn wsX8_pays (wsV RX8 199 RX6 yX6_growPays wsX6_growPays) := goodIn_app (goodIn_of _ (by decide +kernel)) ggX8_pays_X6_growPays
set_option maxRecDepth 20000 in
theorem ggX8_pays_X6_countBack : GoodIn wsX8_pays wsX6_countBack := goodIn_r _ [156, 157, 158, 19, 31, 30, 159, 160, 161, 17, 162, 22, 33, 34, 23, 163, 164, 165, 166, 21, 68, 167, 168, 169, 179, 180, 181, 182, 183, 184, 185, 186, 187, 188, 189, 190, 191, 192, 193, 194, 195, 196, 197, 198, 199, 200, 201, 202, 203, 204] (by decide +kernel) (by decide +kernel)
set_option maxRecDepth 20000 in
theorem gX8_pays_X6_countBack : GoodIn wsX8_pays (wsV RX8 266 RX6 yX6_countBack wsX6_countBack) := goodIn_app (goodIn_of _ (by decide +kernel)) ggX8_pays_X6_countBack
theorem dX8_pays_0 : decode cX8_pays 0 = .ok (.iload_n 1, 1) := by decide +kernel
theorem dX8_pays_1 : decode cX8_pays 1 = .ok (.ifCond .lt 8, 3) := by decide +kernel
theorem dX8_pays_4 : decode cX8_pays 4 = .ok (.iload_n 1, 1) := by decide +kernel
theorem dX8_pays_5 : decode cX8_pays 5 = .ok (.iconst 2, 1) := by decide +kernel
theorem dX8_pays_6 : decode cX8_pays 6 = .ok (.if_icmp .le 5, 3) := by decide +kernel
theorem dX8_pays_9 : decode cX8_pays 9 = .ok (.iconst (-1), 1) := by decide +kernel
theorem dX8_pays_10 : decode cX8_pays 10 = .ok (.ireturn, 1) := by decide +kernel
theorem dX8_pays_11 : decode cX8_pays 11 = .ok (.aload_n 0, 1) := by decide +kernel
theorem dX8_pays_12 : decode cX8_pays 12 = .ok (.getfield 19, 3) := by decide +kernel
theorem dX8_pays_15 : decode cX8_pays 15 = .ok (.invokevirtual 170, 3) := by decide +kernel
theorem dX8_pays_18 : decode cX8_pays 18 = .ok (.bipush 7, 2) := by decide +kernel
theorem dX8_pays_20 : decode cX8_pays 20 = .ok (.if_icmp .le 6, 3) := by decide +kernel
theorem dX8_pays_23 : decode cX8_pays 23 = .ok (.bipush (-2), 2) := by decide +kernel
theorem dX8_pays_25 : decode cX8_pays 25 = .ok (.ireturn, 1) := by decide +kernel
theorem dX8_pays_26 : decode cX8_pays 26 = .ok (.aload_n 0, 1) := by decide +kernel
theorem dX8_pays_27 : decode cX8_pays 27 = .ok (.getfield 40, 3) := by decide +kernel
theorem dX8_pays_30 : decode cX8_pays 30 = .ok (.aload_n 0, 1) := by decide +kernel
theorem dX8_pays_31 : decode cX8_pays 31 = .ok (.getfield 10, 3) := by decide +kernel
theorem dX8_pays_34 : decode cX8_pays 34 = .ok (.aload_n 0, 1) := by decide +kernel
theorem dX8_pays_35 : decode cX8_pays 35 = .ok (.getfield 19, 3) := by decide +kernel
theorem dX8_pays_38 : decode cX8_pays 38 = .ok (.invokevirtual 199, 3) := by decide +kernel
theorem dX8_pays_41 : decode cX8_pays 41 = .ok (.aload_n 0, 1) := by decide +kernel
theorem dX8_pays_42 : decode cX8_pays 42 = .ok (.getfield 40, 3) := by decide +kernel
theorem dX8_pays_45 : decode cX8_pays 45 = .ok (.invokevirtual 266, 3) := by decide +kernel
theorem dX8_pays_48 : decode cX8_pays 48 = .ok (.iload_n 1, 1) := by decide +kernel
theorem dX8_pays_49 : decode cX8_pays 49 = .ok (.lookupswitch 43 #[(0, 27), (1, 35)], 27) := by decide +kernel
theorem dX8_pays_76 : decode cX8_pays 76 = .ok (.aload_n 0, 1) := by decide +kernel
theorem dX8_pays_77 : decode cX8_pays 77 = .ok (.getfield 40, 3) := by decide +kernel
theorem dX8_pays_80 : decode cX8_pays 80 = .ok (.getfield 269, 3) := by decide +kernel
theorem dX8_pays_83 : decode cX8_pays 83 = .ok (.ireturn, 1) := by decide +kernel
theorem dX8_pays_84 : decode cX8_pays 84 = .ok (.aload_n 0, 1) := by decide +kernel
theorem dX8_pays_85 : decode cX8_pays 85 = .ok (.getfield 40, 3) := by decide +kernel
theorem dX8_pays_88 : decode cX8_pays 88 = .ok (.getfield 272, 3) := by decide +kernel
theorem dX8_pays_91 : decode cX8_pays 91 = .ok (.ireturn, 1) := by decide +kernel
theorem dX8_pays_92 : decode cX8_pays 92 = .ok (.iconst 1, 1) := by decide +kernel
theorem dX8_pays_93 : decode cX8_pays 93 = .ok (.aload_n 0, 1) := by decide +kernel
theorem dX8_pays_94 : decode cX8_pays 94 = .ok (.getfield 40, 3) := by decide +kernel
theorem dX8_pays_97 : decode cX8_pays 97 = .ok (.getfield 275, 3) := by decide +kernel
theorem dX8_pays_100 : decode cX8_pays 100 = .ok (.ishl, 1) := by decide +kernel
theorem dX8_pays_101 : decode cX8_pays 101 = .ok (.iconst 1, 1) := by decide +kernel
theorem dX8_pays_102 : decode cX8_pays 102 = .ok (.isub, 1) := by decide +kernel
theorem dX8_pays_103 : decode cX8_pays 103 = .ok (.ireturn, 1) := by decide +kernel
set_option maxRecDepth 20000 in
theorem ggX8_years_X8_isSide : GoodIn wsX8_years wsX8_isSide := goodIn_r _ [13, 2, 14, 165, 166, 167, 168, 169, 170, 171, 172, 173, 184, 185, 186, 187, 188, 189, 190, 191] (by decide +kernel) (by decide +kernel)
set_option maxRecDepth 20000 in
theorem gX8_years_X8_isSide : GoodIn wsX8_years (wsV RX8 130 RX8 yX8_isSide wsX8_isSide) := goodIn_app (goodIn_of _ (by decide +kernel)) ggX8_years_X8_isSide
set_option maxRecDepth 20000 in
theorem ggX8_years_X7_pass : GoodIn wsX8_years wsX7_pass := goodIn_r _ [19, 20, 21, 22, 23, 24, 25, 26, 27, 28, 29, 30, 31, 32, 33, 34, 35, 36, 37, 38, 39, 40, 41, 42, 43, 44, 45, 46, 47, 48, 49, 50, 18, 51, 52, 53, 54, 55, 56, 12, 57, 58, 59, 60, 61, 62, 63, 64, 65, 66, 67, 68, 69, 70, 71, 72, 73, 74, 75, 76, 77, 78, 79, 80, 81, 82, 83, 84, 85, 86, 87, 88, 89, 90, 91, 92, 93, 94, 95, 96, 97, 98, 99, 100, 101, 102, 103, 104, 105, 106, 107, 108, 109, 110, 111, 112, 113, 114, 115, 116, 117, 118, 119, 120, 121, 122, 123, 124, 125, 126, 127, 128, 129, 130, 131, 132, 133, 134, 135, 136, 137, 138, 139, 140, 141, 142, 143, 144, 145, 146, 147, 148, 149, 150, 151, 152, 153, 154, 155, 156, 157, 174, 175, 176, 177, 178, 179, 180, 181, 182, 183, 184, 185, 186, 187, 188, 189, 190, 191, 192, 193, 194, 195, 196, 197, 198, 199, 200, 201, 202, 203] (by decide +kernel) (by decide +kernel)
set_option maxRecDepth 20000 in
theorem gX8_years_X7_pass : GoodIn wsX8_years (wsV RX8 278 RX7 yX7_pass wsX7_pass) := goodIn_app (goodIn_of _ (by decide +kernel)) ggX8_years_X7_pass
set_option maxRecDepth 20000 in
theorem ggX8_years_J6_bitCount_0f7a4 : GoodIn wsX8_years wsJ6_bitCount_0f7a4 := goodIn_r _ [161, 162, 163, 164] (by decide +kernel) (by decide +kernel)
set_option maxRecDepth 20000 in
theorem gX8_years_J6_bitCount_0f7a4 : GoodIn wsX8_years (va_wsS RX8 288 yJ6_bitCount_0f7a4 wsJ6_bitCount_0f7a4) := goodIn_app (goodIn_of _ (by decide +kernel)) ggX8_years_J6_bitCount_0f7a4
theorem dX8_years_0 : decode cX8_years 0 = .ok (.iload_n 3, 1) := by decide +kernel
theorem dX8_years_1 : decode cX8_years 1 = .ok (.bipush 10, 2) := by decide +kernel
theorem dX8_years_3 : decode cX8_years 3 = .ok (.if_icmp .lt 18, 3) := by decide +kernel
theorem dX8_years_6 : decode cX8_years 6 = .ok (.aload_n 0, 1) := by decide +kernel
theorem dX8_years_7 : decode cX8_years 7 = .ok (.iload_n 3, 1) := by decide +kernel
theorem dX8_years_8 : decode cX8_years 8 = .ok (.bipush 10, 2) := by decide +kernel
theorem dX8_years_10 : decode cX8_years 10 = .ok (.isub, 1) := by decide +kernel
theorem dX8_years_11 : decode cX8_years 11 = .ok (.invokevirtual 130, 3) := by decide +kernel
theorem dX8_years_14 : decode cX8_years 14 = .ok (.ifCond .eq 7, 3) := by decide +kernel
theorem dX8_years_17 : decode cX8_years 17 = .ok (.iconst 1, 1) := by decide +kernel
theorem dX8_years_18 : decode cX8_years 18 = .ok (.goto 4, 3) := by decide +kernel
theorem dX8_years_21 : decode cX8_years 21 = .ok (.iconst 0, 1) := by decide +kernel
theorem dX8_years_22 : decode cX8_years 22 = .ok (.istore 4, 2) := by decide +kernel
theorem dX8_years_24 : decode cX8_years 24 = .ok (.iload_n 1, 1) := by decide +kernel
theorem dX8_years_25 : decode cX8_years 25 = .ok (.iconst 1, 1) := by decide +kernel
theorem dX8_years_26 : decode cX8_years 26 = .ok (.if_icmp .lt 23, 3) := by decide +kernel
theorem dX8_years_29 : decode cX8_years 29 = .ok (.iload_n 1, 1) := by decide +kernel
theorem dX8_years_30 : decode cX8_years 30 = .ok (.bipush 40, 2) := by decide +kernel
theorem dX8_years_32 : decode cX8_years 32 = .ok (.if_icmp .gt 17, 3) := by decide +kernel
theorem dX8_years_35 : decode cX8_years 35 = .ok (.iload 4, 2) := by decide +kernel
theorem dX8_years_37 : decode cX8_years 37 = .ok (.ifCond .ne 14, 3) := by decide +kernel
theorem dX8_years_40 : decode cX8_years 40 = .ok (.iload_n 3, 1) := by decide +kernel
theorem dX8_years_41 : decode cX8_years 41 = .ok (.ifCond .lt 8, 3) := by decide +kernel
theorem dX8_years_44 : decode cX8_years 44 = .ok (.iload_n 3, 1) := by decide +kernel
theorem dX8_years_45 : decode cX8_years 45 = .ok (.iconst 4, 1) := by decide +kernel
theorem dX8_years_46 : decode cX8_years 46 = .ok (.if_icmp .le 5, 3) := by decide +kernel
theorem dX8_years_49 : decode cX8_years 49 = .ok (.iconst (-1), 1) := by decide +kernel
theorem dX8_years_50 : decode cX8_years 50 = .ok (.ireturn, 1) := by decide +kernel
theorem dX8_years_51 : decode cX8_years 51 = .ok (.aload_n 0, 1) := by decide +kernel
theorem dX8_years_52 : decode cX8_years 52 = .ok (.getfield 47, 3) := by decide +kernel
theorem dX8_years_55 : decode cX8_years 55 = .ok (.aload_n 0, 1) := by decide +kernel
theorem dX8_years_56 : decode cX8_years 56 = .ok (.getfield 10, 3) := by decide +kernel
theorem dX8_years_59 : decode cX8_years 59 = .ok (.iload_n 1, 1) := by decide +kernel
theorem dX8_years_60 : decode cX8_years 60 = .ok (.iload_n 2, 1) := by decide +kernel
theorem dX8_years_61 : decode cX8_years 61 = .ok (.invokevirtual 278, 3) := by decide +kernel
theorem dX8_years_64 : decode cX8_years 64 = .ok (.iload_n 3, 1) := by decide +kernel
theorem dX8_years_65 : decode cX8_years 65 = .ok (.tableswitch 78 0 4 #[35, 43, 54, 62, 70], 35) := by decide +kernel
theorem dX8_years_100 : decode cX8_years 100 = .ok (.aload_n 0, 1) := by decide +kernel
theorem dX8_years_101 : decode cX8_years 101 = .ok (.getfield 47, 3) := by decide +kernel
theorem dX8_years_104 : decode cX8_years 104 = .ok (.getfield 282, 3) := by decide +kernel
theorem dX8_years_107 : decode cX8_years 107 = .ok (.ireturn, 1) := by decide +kernel
theorem dX8_years_108 : decode cX8_years 108 = .ok (.aload_n 0, 1) := by decide +kernel
theorem dX8_years_109 : decode cX8_years 109 = .ok (.getfield 47, 3) := by decide +kernel
theorem dX8_years_112 : decode cX8_years 112 = .ok (.getfield 285, 3) := by decide +kernel
theorem dX8_years_115 : decode cX8_years 115 = .ok (.invokestatic 288, 3) := by decide +kernel
theorem dX8_years_118 : decode cX8_years 118 = .ok (.ireturn, 1) := by decide +kernel
theorem dX8_years_119 : decode cX8_years 119 = .ok (.aload_n 0, 1) := by decide +kernel
theorem dX8_years_120 : decode cX8_years 120 = .ok (.getfield 47, 3) := by decide +kernel
theorem dX8_years_123 : decode cX8_years 123 = .ok (.getfield 293, 3) := by decide +kernel
theorem dX8_years_126 : decode cX8_years 126 = .ok (.ireturn, 1) := by decide +kernel
theorem dX8_years_127 : decode cX8_years 127 = .ok (.aload_n 0, 1) := by decide +kernel
theorem dX8_years_128 : decode cX8_years 128 = .ok (.getfield 47, 3) := by decide +kernel
theorem dX8_years_131 : decode cX8_years 131 = .ok (.getfield 296, 3) := by decide +kernel
theorem dX8_years_134 : decode cX8_years 134 = .ok (.ireturn, 1) := by decide +kernel
theorem dX8_years_135 : decode cX8_years 135 = .ok (.aload_n 0, 1) := by decide +kernel
theorem dX8_years_136 : decode cX8_years 136 = .ok (.getfield 47, 3) := by decide +kernel
theorem dX8_years_139 : decode cX8_years 139 = .ok (.getfield 299, 3) := by decide +kernel
theorem dX8_years_142 : decode cX8_years 142 = .ok (.ireturn, 1) := by decide +kernel
theorem dX8_years_143 : decode cX8_years 143 = .ok (.aload_n 0, 1) := by decide +kernel
theorem dX8_years_144 : decode cX8_years 144 = .ok (.getfield 47, 3) := by decide +kernel
theorem dX8_years_147 : decode cX8_years 147 = .ok (.getfield 302, 3) := by decide +kernel
theorem dX8_years_150 : decode cX8_years 150 = .ok (.iload_n 3, 1) := by decide +kernel
theorem dX8_years_151 : decode cX8_years 151 = .ok (.bipush 10, 2) := by decide +kernel
theorem dX8_years_153 : decode cX8_years 153 = .ok (.isub, 1) := by decide +kernel
theorem dX8_years_154 : decode cX8_years 154 = .ok (.iaload, 1) := by decide +kernel
theorem dX8_years_155 : decode cX8_years 155 = .ok (.ireturn, 1) := by decide +kernel
set_option maxRecDepth 20000 in
theorem ggX8_thumbs_X8_isPart : GoodIn wsX8_thumbs wsX8_isPart := goodIn_r _ [5] (by decide +kernel) (by decide +kernel)
set_option maxRecDepth 20000 in
theorem gX8_thumbs_X8_isPart : GoodIn wsX8_thumbs (va_wsS RX8 196 yX8_isPart wsX8_isPart) := goodIn_app (goodIn_of _ (by decide +kernel)) ggX8_thumbs_X8_isPart
set_option maxRecDepth 20000 in
theorem ggX8_thumbs_X8_restedOrMore : GoodIn wsX8_thumbs wsX8_restedOrMore := goodIn_r _ [8, 9, 10, 4, 11] (by decide +kernel) (by decide +kernel)
set_option maxRecDepth 20000 in
theorem gX8_thumbs_X8_restedOrMore : GoodIn wsX8_thumbs (va_wsS RX8 303 yX8_restedOrMore wsX8_restedOrMore) := goodIn_app (goodIn_of _ (by decide +kernel)) ggX8_thumbs_X8_restedOrMore
set_option maxRecDepth 20000 in
theorem ggX8_thumbs_X8_power : GoodIn wsX8_thumbs wsX8_power := goodIn_r _ [11] (by decide +kernel) (by decide +kernel)
set_option maxRecDepth 20000 in
theorem gX8_thumbs_X8_power : GoodIn wsX8_thumbs (va_wsS RX8 307 yX8_power wsX8_power) := goodIn_app (goodIn_of _ (by decide +kernel)) ggX8_thumbs_X8_power
set_option maxRecDepth 20000 in
theorem ggX8_thumbs_X8_part : GoodIn wsX8_thumbs wsX8_part := goodIn_r _ [14, 15, 16, 4, 17] (by decide +kernel) (by decide +kernel)
set_option maxRecDepth 20000 in
theorem gX8_thumbs_X8_part : GoodIn wsX8_thumbs (va_wsS RX8 211 yX8_part wsX8_part) := goodIn_app (goodIn_of _ (by decide +kernel)) ggX8_thumbs_X8_part
theorem dX8_thumbs_0 : decode cX8_thumbs 0 = .ok (.iload_n 1, 1) := by decide +kernel
theorem dX8_thumbs_1 : decode cX8_thumbs 1 = .ok (.iconst 1, 1) := by decide +kernel
theorem dX8_thumbs_2 : decode cX8_thumbs 2 = .ok (.if_icmp .lt 25, 3) := by decide +kernel
theorem dX8_thumbs_5 : decode cX8_thumbs 5 = .ok (.iload_n 1, 1) := by decide +kernel
theorem dX8_thumbs_6 : decode cX8_thumbs 6 = .ok (.bipush 20, 2) := by decide +kernel
theorem dX8_thumbs_8 : decode cX8_thumbs 8 = .ok (.if_icmp .gt 19, 3) := by decide +kernel
theorem dX8_thumbs_11 : decode cX8_thumbs 11 = .ok (.iload_n 2, 1) := by decide +kernel
theorem dX8_thumbs_12 : decode cX8_thumbs 12 = .ok (.ifCond .lt 15, 3) := by decide +kernel
theorem dX8_thumbs_15 : decode cX8_thumbs 15 = .ok (.iload_n 2, 1) := by decide +kernel
theorem dX8_thumbs_16 : decode cX8_thumbs 16 = .ok (.iload_n 1, 1) := by decide +kernel
theorem dX8_thumbs_17 : decode cX8_thumbs 17 = .ok (.if_icmp .gt 10, 3) := by decide +kernel
theorem dX8_thumbs_20 : decode cX8_thumbs 20 = .ok (.iload_n 3, 1) := by decide +kernel
theorem dX8_thumbs_21 : decode cX8_thumbs 21 = .ok (.invokestatic 196, 3) := by decide +kernel
theorem dX8_thumbs_24 : decode cX8_thumbs 24 = .ok (.ifCond .ne 7, 3) := by decide +kernel
theorem dX8_thumbs_27 : decode cX8_thumbs 27 = .ok (.ldc2_w 215, 3) := by decide +kernel
theorem dX8_thumbs_30 : decode cX8_thumbs 30 = .ok (.lreturn, 1) := by decide +kernel
theorem dX8_thumbs_31 : decode cX8_thumbs 31 = .ok (.iload_n 1, 1) := by decide +kernel
theorem dX8_thumbs_32 : decode cX8_thumbs 32 = .ok (.iload_n 2, 1) := by decide +kernel
theorem dX8_thumbs_33 : decode cX8_thumbs 33 = .ok (.invokestatic 303, 3) := by decide +kernel
theorem dX8_thumbs_36 : decode cX8_thumbs 36 = .ok (.bipush 6, 2) := by decide +kernel
theorem dX8_thumbs_38 : decode cX8_thumbs 38 = .ok (.iload_n 1, 1) := by decide +kernel
theorem dX8_thumbs_39 : decode cX8_thumbs 39 = .ok (.invokestatic 307, 3) := by decide +kernel
theorem dX8_thumbs_42 : decode cX8_thumbs 42 = .ok (.iload_n 3, 1) := by decide +kernel
theorem dX8_thumbs_43 : decode cX8_thumbs 43 = .ok (.invokestatic 211, 3) := by decide +kernel
theorem dX8_thumbs_46 : decode cX8_thumbs 46 = .ok (.lreturn, 1) := by decide +kernel
set_option maxRecDepth 20000 in
theorem ggX8_fine_X8_power : GoodIn wsX8_fine wsX8_power := goodIn_r _ [4] (by decide +kernel) (by decide +kernel)
set_option maxRecDepth 20000 in
theorem gX8_fine_X8_power : GoodIn wsX8_fine (va_wsS RX8 307 yX8_power wsX8_power) := goodIn_app (goodIn_of _ (by decide +kernel)) ggX8_fine_X8_power
set_option maxRecDepth 20000 in
theorem ggX8_fine_X8_restedOrMore : GoodIn wsX8_fine wsX8_restedOrMore := goodIn_r _ [7, 1, 2, 3, 4] (by decide +kernel) (by decide +kernel)
set_option maxRecDepth 20000 in
theorem gX8_fine_X8_restedOrMore : GoodIn wsX8_fine (va_wsS RX8 303 yX8_restedOrMore wsX8_restedOrMore) := goodIn_app (goodIn_of _ (by decide +kernel)) ggX8_fine_X8_restedOrMore
theorem dX8_fine_0 : decode cX8_fine 0 = .ok (.iload_n 1, 1) := by decide +kernel
theorem dX8_fine_1 : decode cX8_fine 1 = .ok (.iconst 1, 1) := by decide +kernel
theorem dX8_fine_2 : decode cX8_fine 2 = .ok (.if_icmp .lt 21, 3) := by decide +kernel
theorem dX8_fine_5 : decode cX8_fine 5 = .ok (.iload_n 1, 1) := by decide +kernel
theorem dX8_fine_6 : decode cX8_fine 6 = .ok (.bipush 20, 2) := by decide +kernel
theorem dX8_fine_8 : decode cX8_fine 8 = .ok (.if_icmp .gt 15, 3) := by decide +kernel
theorem dX8_fine_11 : decode cX8_fine 11 = .ok (.iload_n 2, 1) := by decide +kernel
theorem dX8_fine_12 : decode cX8_fine 12 = .ok (.iconst 2, 1) := by decide +kernel
theorem dX8_fine_13 : decode cX8_fine 13 = .ok (.if_icmp .lt 10, 3) := by decide +kernel
theorem dX8_fine_16 : decode cX8_fine 16 = .ok (.iload_n 2, 1) := by decide +kernel
theorem dX8_fine_17 : decode cX8_fine 17 = .ok (.sipush 1000, 3) := by decide +kernel
theorem dX8_fine_20 : decode cX8_fine 20 = .ok (.if_icmp .le 5, 3) := by decide +kernel
theorem dX8_fine_23 : decode cX8_fine 23 = .ok (.iconst (-1), 1) := by decide +kernel
theorem dX8_fine_24 : decode cX8_fine 24 = .ok (.ireturn, 1) := by decide +kernel
theorem dX8_fine_25 : decode cX8_fine 25 = .ok (.bipush 6, 2) := by decide +kernel
theorem dX8_fine_27 : decode cX8_fine 27 = .ok (.iload_n 1, 1) := by decide +kernel
theorem dX8_fine_28 : decode cX8_fine 28 = .ok (.invokestatic 307, 3) := by decide +kernel
theorem dX8_fine_31 : decode cX8_fine 31 = .ok (.lstore_n 3, 1) := by decide +kernel
theorem dX8_fine_32 : decode cX8_fine 32 = .ok (.iconst 0, 1) := by decide +kernel
theorem dX8_fine_33 : decode cX8_fine 33 = .ok (.istore 5, 2) := by decide +kernel
theorem dX8_fine_35 : decode cX8_fine 35 = .ok (.iload 5, 2) := by decide +kernel
theorem dX8_fine_37 : decode cX8_fine 37 = .ok (.iload_n 1, 1) := by decide +kernel
theorem dX8_fine_38 : decode cX8_fine 38 = .ok (.if_icmp .gt 26, 3) := by decide +kernel
theorem dX8_fine_41 : decode cX8_fine 41 = .ok (.iload_n 1, 1) := by decide +kernel
theorem dX8_fine_42 : decode cX8_fine 42 = .ok (.iload 5, 2) := by decide +kernel
theorem dX8_fine_44 : decode cX8_fine 44 = .ok (.invokestatic 303, 3) := by decide +kernel
theorem dX8_fine_47 : decode cX8_fine 47 = .ok (.iload_n 2, 1) := by decide +kernel
theorem dX8_fine_48 : decode cX8_fine 48 = .ok (.i2l, 1) := by decide +kernel
theorem dX8_fine_49 : decode cX8_fine 49 = .ok (.lmul, 1) := by decide +kernel
theorem dX8_fine_50 : decode cX8_fine 50 = .ok (.lload_n 3, 1) := by decide +kernel
theorem dX8_fine_51 : decode cX8_fine 51 = .ok (.lcmp, 1) := by decide +kernel
theorem dX8_fine_52 : decode cX8_fine 52 = .ok (.ifCond .gt 6, 3) := by decide +kernel
theorem dX8_fine_55 : decode cX8_fine 55 = .ok (.iload 5, 2) := by decide +kernel
theorem dX8_fine_57 : decode cX8_fine 57 = .ok (.ireturn, 1) := by decide +kernel
theorem dX8_fine_58 : decode cX8_fine 58 = .ok (.iinc 5 1, 3) := by decide +kernel
theorem dX8_fine_61 : decode cX8_fine 61 = .ok (.goto (-26), 3) := by decide +kernel
theorem dX8_fine_64 : decode cX8_fine 64 = .ok (.bipush (-4), 2) := by decide +kernel
theorem dX8_fine_66 : decode cX8_fine 66 = .ok (.ireturn, 1) := by decide +kernel
set_option maxRecDepth 20000 in
theorem ggX8_sheet_X8_isSheet : GoodIn wsX8_sheet wsX8_isSheet := goodIn_r _ [5] (by decide +kernel) (by decide +kernel)
set_option maxRecDepth 20000 in
theorem gX8_sheet_X8_isSheet : GoodIn wsX8_sheet (va_wsS RX8 310 yX8_isSheet wsX8_isSheet) := goodIn_app (goodIn_of _ (by decide +kernel)) ggX8_sheet_X8_isSheet
set_option maxRecDepth 20000 in
theorem ggX8_sheet_X8_isLane : GoodIn wsX8_sheet wsX8_isLane := goodIn_r _ [8] (by decide +kernel) (by decide +kernel)
set_option maxRecDepth 20000 in
theorem gX8_sheet_X8_isLane : GoodIn wsX8_sheet (va_wsS RX8 313 yX8_isLane wsX8_isLane) := goodIn_app (goodIn_of _ (by decide +kernel)) ggX8_sheet_X8_isLane
set_option maxRecDepth 20000 in
theorem ggX8_sheet_X3_renew : GoodIn wsX8_sheet wsX3_renew := goodIn_r _ [13, 14, 15, 16, 17, 27, 28, 29, 30] (by decide +kernel) (by decide +kernel)
set_option maxRecDepth 20000 in
theorem gX8_sheet_X3_renew : GoodIn wsX8_sheet (wsV RX8 316 RX3 yX3_renew wsX3_renew) := goodIn_app (goodIn_of _ (by decide +kernel)) ggX8_sheet_X3_renew
theorem dX8_sheet_0 : decode cX8_sheet 0 = .ok (.iload_n 1, 1) := by decide +kernel
theorem dX8_sheet_1 : decode cX8_sheet 1 = .ok (.invokestatic 310, 3) := by decide +kernel
theorem dX8_sheet_4 : decode cX8_sheet 4 = .ok (.ifCond .eq 16, 3) := by decide +kernel
theorem dX8_sheet_7 : decode cX8_sheet 7 = .ok (.iload_n 2, 1) := by decide +kernel
theorem dX8_sheet_8 : decode cX8_sheet 8 = .ok (.invokestatic 313, 3) := by decide +kernel
theorem dX8_sheet_11 : decode cX8_sheet 11 = .ok (.ifCond .eq 9, 3) := by decide +kernel
theorem dX8_sheet_14 : decode cX8_sheet 14 = .ok (.iload_n 3, 1) := by decide +kernel
theorem dX8_sheet_15 : decode cX8_sheet 15 = .ok (.bipush 40, 2) := by decide +kernel
theorem dX8_sheet_17 : decode cX8_sheet 17 = .ok (.if_icmp .le 5, 3) := by decide +kernel
theorem dX8_sheet_20 : decode cX8_sheet 20 = .ok (.iconst (-1), 1) := by decide +kernel
theorem dX8_sheet_21 : decode cX8_sheet 21 = .ok (.ireturn, 1) := by decide +kernel
theorem dX8_sheet_22 : decode cX8_sheet 22 = .ok (.iload_n 3, 1) := by decide +kernel
theorem dX8_sheet_23 : decode cX8_sheet 23 = .ok (.ifCond .ge 6, 3) := by decide +kernel
theorem dX8_sheet_26 : decode cX8_sheet 26 = .ok (.bipush (-14), 2) := by decide +kernel
theorem dX8_sheet_28 : decode cX8_sheet 28 = .ok (.ireturn, 1) := by decide +kernel
theorem dX8_sheet_29 : decode cX8_sheet 29 = .ok (.aload_n 0, 1) := by decide +kernel
theorem dX8_sheet_30 : decode cX8_sheet 30 = .ok (.getfield 53, 3) := by decide +kernel
theorem dX8_sheet_33 : decode cX8_sheet 33 = .ok (.iload_n 1, 1) := by decide +kernel
theorem dX8_sheet_34 : decode cX8_sheet 34 = .ok (.aaload, 1) := by decide +kernel
theorem dX8_sheet_35 : decode cX8_sheet 35 = .ok (.iload_n 2, 1) := by decide +kernel
theorem dX8_sheet_36 : decode cX8_sheet 36 = .ok (.iload_n 3, 1) := by decide +kernel
theorem dX8_sheet_37 : decode cX8_sheet 37 = .ok (.invokevirtual 316, 3) := by decide +kernel
theorem dX8_sheet_40 : decode cX8_sheet 40 = .ok (.iconst 1, 1) := by decide +kernel
theorem dX8_sheet_41 : decode cX8_sheet 41 = .ok (.ireturn, 1) := by decide +kernel
set_option maxRecDepth 20000 in
theorem ggX8_lay_X8_isSheet : GoodIn wsX8_lay wsX8_isSheet := goodIn_r _ [6] (by decide +kernel) (by decide +kernel)
set_option maxRecDepth 20000 in
theorem gX8_lay_X8_isSheet : GoodIn wsX8_lay (va_wsS RX8 310 yX8_isSheet wsX8_isSheet) := goodIn_app (goodIn_of _ (by decide +kernel)) ggX8_lay_X8_isSheet
set_option maxRecDepth 20000 in
theorem ggX8_lay_X3_has : GoodIn wsX8_lay wsX3_has := goodIn_r _ [11, 12, 28, 29, 30, 31] (by decide +kernel) (by decide +kernel)
set_option maxRecDepth 20000 in
theorem gX8_lay_X3_has : GoodIn wsX8_lay (wsV RX8 323 RX3 yX3_has wsX3_has) := goodIn_app (goodIn_of _ (by decide +kernel)) ggX8_lay_X3_has
set_option maxRecDepth 20000 in
theorem ggX8_lay_X3_put : GoodIn wsX8_lay wsX3_put := goodIn_r _ [16, 17, 18, 28, 29, 30, 31] (by decide +kernel) (by decide +kernel)
set_option maxRecDepth 20000 in
theorem gX8_lay_X3_put : GoodIn wsX8_lay (wsV RX8 324 RX3 yX3_put wsX3_put) := goodIn_app (goodIn_of _ (by decide +kernel)) ggX8_lay_X3_put
theorem dX8_lay_0 : decode cX8_lay 0 = .ok (.iload_n 1, 1) := by decide +kernel
theorem dX8_lay_1 : decode cX8_lay 1 = .ok (.invokestatic 310, 3) := by decide +kernel
theorem dX8_lay_4 : decode cX8_lay 4 = .ok (.ifCond .ne 5, 3) := by decide +kernel
theorem dX8_lay_7 : decode cX8_lay 7 = .ok (.iconst (-1), 1) := by decide +kernel
theorem dX8_lay_8 : decode cX8_lay 8 = .ok (.ireturn, 1) := by decide +kernel
theorem dX8_lay_9 : decode cX8_lay 9 = .ok (.aload_n 0, 1) := by decide +kernel
theorem dX8_lay_10 : decode cX8_lay 10 = .ok (.getfield 53, 3) := by decide +kernel
theorem dX8_lay_13 : decode cX8_lay 13 = .ok (.iload_n 1, 1) := by decide +kernel
theorem dX8_lay_14 : decode cX8_lay 14 = .ok (.aaload, 1) := by decide +kernel
theorem dX8_lay_15 : decode cX8_lay 15 = .ok (.astore 4, 2) := by decide +kernel
theorem dX8_lay_17 : decode cX8_lay 17 = .ok (.aload 4, 2) := by decide +kernel
theorem dX8_lay_19 : decode cX8_lay 19 = .ok (.getfield 320, 3) := by decide +kernel
theorem dX8_lay_22 : decode cX8_lay 22 = .ok (.ifCond .ne 6, 3) := by decide +kernel
theorem dX8_lay_25 : decode cX8_lay 25 = .ok (.bipush (-11), 2) := by decide +kernel
theorem dX8_lay_27 : decode cX8_lay 27 = .ok (.ireturn, 1) := by decide +kernel
theorem dX8_lay_28 : decode cX8_lay 28 = .ok (.aload 4, 2) := by decide +kernel
theorem dX8_lay_30 : decode cX8_lay 30 = .ok (.iload_n 2, 1) := by decide +kernel
theorem dX8_lay_31 : decode cX8_lay 31 = .ok (.invokevirtual 323, 3) := by decide +kernel
theorem dX8_lay_34 : decode cX8_lay 34 = .ok (.ifCond .ne 6, 3) := by decide +kernel
theorem dX8_lay_37 : decode cX8_lay 37 = .ok (.bipush (-12), 2) := by decide +kernel
theorem dX8_lay_39 : decode cX8_lay 39 = .ok (.ireturn, 1) := by decide +kernel
theorem dX8_lay_40 : decode cX8_lay 40 = .ok (.aload 4, 2) := by decide +kernel
theorem dX8_lay_42 : decode cX8_lay 42 = .ok (.iload_n 2, 1) := by decide +kernel
theorem dX8_lay_43 : decode cX8_lay 43 = .ok (.iload_n 3, 1) := by decide +kernel
theorem dX8_lay_44 : decode cX8_lay 44 = .ok (.invokevirtual 324, 3) := by decide +kernel
theorem dX8_lay_47 : decode cX8_lay 47 = .ok (.iconst 1, 1) := by decide +kernel
theorem dX8_lay_48 : decode cX8_lay 48 = .ok (.ireturn, 1) := by decide +kernel
set_option maxRecDepth 20000 in
theorem ggX8_read_X8_isSheet : GoodIn wsX8_read wsX8_isSheet := goodIn_r _ [9] (by decide +kernel) (by decide +kernel)
set_option maxRecDepth 20000 in
theorem gX8_read_X8_isSheet : GoodIn wsX8_read (va_wsS RX8 310 yX8_isSheet wsX8_isSheet) := goodIn_app (goodIn_of _ (by decide +kernel)) ggX8_read_X8_isSheet
set_option maxRecDepth 20000 in
theorem ggX8_read_X8_isLane : GoodIn wsX8_read wsX8_isLane := goodIn_r _ [12] (by decide +kernel) (by decide +kernel)
set_option maxRecDepth 20000 in
theorem gX8_read_X8_isLane : GoodIn wsX8_read (va_wsS RX8 313 yX8_isLane wsX8_isLane) := goodIn_app (goodIn_of _ (by decide +kernel)) ggX8_read_X8_isLane
set_option maxRecDepth 20000 in
theorem ggX8_read_X3_readable : GoodIn wsX8_read wsX3_readable := goodIn_r _ [17, 18, 19, 20, 21, 22, 23, 24, 25, 26, 27, 16, 28, 51, 52, 53, 54] (by decide +kernel) (by decide +kernel)
set_option maxRecDepth 20000 in
theorem gX8_read_X3_readable : GoodIn wsX8_read (wsV RX8 326 RX3 yX3_readable wsX3_readable) := goodIn_app (goodIn_of _ (by decide +kernel)) ggX8_read_X3_readable
set_option maxRecDepth 20000 in
theorem ggX8_read_X3_machineFault : GoodIn wsX8_read wsX3_machineFault := goodIn_r _ [32, 18, 19, 51, 52, 53, 54] (by decide +kernel) (by decide +kernel)
set_option maxRecDepth 20000 in
theorem gX8_read_X3_machineFault : GoodIn wsX8_read (wsV RX8 333 RX3 yX3_machineFault wsX3_machineFault) := goodIn_app (goodIn_of _ (by decide +kernel)) ggX8_read_X3_machineFault
set_option maxRecDepth 20000 in
theorem ggX8_read_X8_takeEnds : GoodIn wsX8_read wsX8_takeEnds := goodIn_r _ [36, 4, 1, 37, 51, 52, 53, 54, 38, 39, 40, 41, 42, 43, 44, 45, 46, 47, 48, 49, 50] (by decide +kernel) (by decide +kernel)
set_option maxRecDepth 20000 in
theorem gX8_read_X8_takeEnds : GoodIn wsX8_read (wsV RX8 339 RX8 yX8_takeEnds wsX8_takeEnds) := goodIn_app (goodIn_of _ (by decide +kernel)) ggX8_read_X8_takeEnds
theorem dX8_read_0 : decode cX8_read 0 = .ok (.iload_n 1, 1) := by decide +kernel
theorem dX8_read_1 : decode cX8_read 1 = .ok (.invokestatic 310, 3) := by decide +kernel
theorem dX8_read_4 : decode cX8_read 4 = .ok (.ifCond .eq 22, 3) := by decide +kernel
theorem dX8_read_7 : decode cX8_read 7 = .ok (.iload_n 2, 1) := by decide +kernel
theorem dX8_read_8 : decode cX8_read 8 = .ok (.invokestatic 313, 3) := by decide +kernel
theorem dX8_read_11 : decode cX8_read 11 = .ok (.ifCond .eq 15, 3) := by decide +kernel
theorem dX8_read_14 : decode cX8_read 14 = .ok (.iload 5, 2) := by decide +kernel
theorem dX8_read_16 : decode cX8_read 16 = .ok (.ifCond .lt 10, 3) := by decide +kernel
theorem dX8_read_19 : decode cX8_read 19 = .ok (.iload 5, 2) := by decide +kernel
theorem dX8_read_21 : decode cX8_read 21 = .ok (.bipush 30, 2) := by decide +kernel
theorem dX8_read_23 : decode cX8_read 23 = .ok (.if_icmp .le 5, 3) := by decide +kernel
theorem dX8_read_26 : decode cX8_read 26 = .ok (.iconst (-1), 1) := by decide +kernel
theorem dX8_read_27 : decode cX8_read 27 = .ok (.ireturn, 1) := by decide +kernel
theorem dX8_read_28 : decode cX8_read 28 = .ok (.iload 4, 2) := by decide +kernel
theorem dX8_read_30 : decode cX8_read 30 = .ok (.ifCond .lt 30, 3) := by decide +kernel
theorem dX8_read_33 : decode cX8_read 33 = .ok (.iload 4, 2) := by decide +kernel
theorem dX8_read_35 : decode cX8_read 35 = .ok (.aload_n 0, 1) := by decide +kernel
theorem dX8_read_36 : decode cX8_read 36 = .ok (.getfield 19, 3) := by decide +kernel
theorem dX8_read_39 : decode cX8_read 39 = .ok (.getfield 95, 3) := by decide +kernel
theorem dX8_read_42 : decode cX8_read 42 = .ok (.if_icmp .gt 18, 3) := by decide +kernel
theorem dX8_read_45 : decode cX8_read 45 = .ok (.iload 5, 2) := by decide +kernel
theorem dX8_read_47 : decode cX8_read 47 = .ok (.aload_n 0, 1) := by decide +kernel
theorem dX8_read_48 : decode cX8_read 48 = .ok (.getfield 19, 3) := by decide +kernel
theorem dX8_read_51 : decode cX8_read 51 = .ok (.getfield 95, 3) := by decide +kernel
theorem dX8_read_54 : decode cX8_read 54 = .ok (.iload 4, 2) := by decide +kernel
theorem dX8_read_56 : decode cX8_read 56 = .ok (.isub, 1) := by decide +kernel
theorem dX8_read_57 : decode cX8_read 57 = .ok (.if_icmp .le 5, 3) := by decide +kernel
theorem dX8_read_60 : decode cX8_read 60 = .ok (.iconst (-1), 1) := by decide +kernel
theorem dX8_read_61 : decode cX8_read 61 = .ok (.ireturn, 1) := by decide +kernel
theorem dX8_read_62 : decode cX8_read 62 = .ok (.aload_n 0, 1) := by decide +kernel
theorem dX8_read_63 : decode cX8_read 63 = .ok (.getfield 53, 3) := by decide +kernel
theorem dX8_read_66 : decode cX8_read 66 = .ok (.iload_n 1, 1) := by decide +kernel
theorem dX8_read_67 : decode cX8_read 67 = .ok (.aaload, 1) := by decide +kernel
theorem dX8_read_68 : decode cX8_read 68 = .ok (.astore 6, 2) := by decide +kernel
theorem dX8_read_70 : decode cX8_read 70 = .ok (.aload 6, 2) := by decide +kernel
theorem dX8_read_72 : decode cX8_read 72 = .ok (.iload_n 2, 1) := by decide +kernel
theorem dX8_read_73 : decode cX8_read 73 = .ok (.iload_n 3, 1) := by decide +kernel
theorem dX8_read_74 : decode cX8_read 74 = .ok (.iload 5, 2) := by decide +kernel
theorem dX8_read_76 : decode cX8_read 76 = .ok (.invokevirtual 326, 3) := by decide +kernel
theorem dX8_read_79 : decode cX8_read 79 = .ok (.istore 7, 2) := by decide +kernel
theorem dX8_read_81 : decode cX8_read 81 = .ok (.iconst 0, 1) := by decide +kernel
theorem dX8_read_82 : decode cX8_read 82 = .ok (.istore 8, 2) := by decide +kernel
theorem dX8_read_84 : decode cX8_read 84 = .ok (.iload 8, 2) := by decide +kernel
theorem dX8_read_86 : decode cX8_read 86 = .ok (.iload 7, 2) := by decide +kernel
theorem dX8_read_88 : decode cX8_read 88 = .ok (.if_icmp .ge 38, 3) := by decide +kernel
theorem dX8_read_91 : decode cX8_read 91 = .ok (.aload 6, 2) := by decide +kernel
theorem dX8_read_93 : decode cX8_read 93 = .ok (.getfield 330, 3) := by decide +kernel
theorem dX8_read_96 : decode cX8_read 96 = .ok (.iload_n 3, 1) := by decide +kernel
theorem dX8_read_97 : decode cX8_read 97 = .ok (.iload 8, 2) := by decide +kernel
theorem dX8_read_99 : decode cX8_read 99 = .ok (.iadd, 1) := by decide +kernel
theorem dX8_read_100 : decode cX8_read 100 = .ok (.iaload, 1) := by decide +kernel
theorem dX8_read_101 : decode cX8_read 101 = .ok (.istore 9, 2) := by decide +kernel
theorem dX8_read_103 : decode cX8_read 103 = .ok (.iload 9, 2) := by decide +kernel
theorem dX8_read_105 : decode cX8_read 105 = .ok (.ifCond .lt 9, 3) := by decide +kernel
theorem dX8_read_108 : decode cX8_read 108 = .ok (.iload 9, 2) := by decide +kernel
theorem dX8_read_110 : decode cX8_read 110 = .ok (.iconst 2, 1) := by decide +kernel
theorem dX8_read_111 : decode cX8_read 111 = .ok (.if_icmp .le 9, 3) := by decide +kernel
theorem dX8_read_114 : decode cX8_read 114 = .ok (.bipush (-20), 2) := by decide +kernel
theorem dX8_read_116 : decode cX8_read 116 = .ok (.iload 8, 2) := by decide +kernel
theorem dX8_read_118 : decode cX8_read 118 = .ok (.isub, 1) := by decide +kernel
theorem dX8_read_119 : decode cX8_read 119 = .ok (.ireturn, 1) := by decide +kernel
theorem dX8_read_120 : decode cX8_read 120 = .ok (.iinc 8 1, 3) := by decide +kernel
theorem dX8_read_123 : decode cX8_read 123 = .ok (.goto (-39), 3) := by decide +kernel
theorem dX8_read_126 : decode cX8_read 126 = .ok (.aload_n 0, 1) := by decide +kernel
theorem dX8_read_127 : decode cX8_read 127 = .ok (.aload 6, 2) := by decide +kernel
theorem dX8_read_129 : decode cX8_read 129 = .ok (.iload_n 2, 1) := by decide +kernel
theorem dX8_read_130 : decode cX8_read 130 = .ok (.iload 7, 2) := by decide +kernel
theorem dX8_read_132 : decode cX8_read 132 = .ok (.iload 5, 2) := by decide +kernel
theorem dX8_read_134 : decode cX8_read 134 = .ok (.invokevirtual 333, 3) := by decide +kernel
theorem dX8_read_137 : decode cX8_read 137 = .ok (.putfield 336, 3) := by decide +kernel
theorem dX8_read_140 : decode cX8_read 140 = .ok (.aload_n 0, 1) := by decide +kernel
theorem dX8_read_141 : decode cX8_read 141 = .ok (.aload 6, 2) := by decide +kernel
theorem dX8_read_143 : decode cX8_read 143 = .ok (.iload_n 3, 1) := by decide +kernel
theorem dX8_read_144 : decode cX8_read 144 = .ok (.iload 4, 2) := by decide +kernel
theorem dX8_read_146 : decode cX8_read 146 = .ok (.iload 7, 2) := by decide +kernel
theorem dX8_read_148 : decode cX8_read 148 = .ok (.invokevirtual 339, 3) := by decide +kernel
theorem dX8_read_151 : decode cX8_read 151 = .ok (.ireturn, 1) := by decide +kernel
theorem dX8_torn_0 : decode cX8_torn 0 = .ok (.aload_n 0, 1) := by decide +kernel
theorem dX8_torn_1 : decode cX8_torn 1 = .ok (.getfield 336, 3) := by decide +kernel
theorem dX8_torn_4 : decode cX8_torn 4 = .ok (.ireturn, 1) := by decide +kernel
set_option maxRecDepth 20000 in
theorem ggX8_count_X0_openOnes : GoodIn wsX8_count wsX0_openOnes := goodIn_r _ [15, 16, 17, 42, 43, 44, 45] (by decide +kernel) (by decide +kernel)
set_option maxRecDepth 20000 in
theorem gX8_count_X0_openOnes : GoodIn wsX8_count (wsV RX8 170 RX0 yX0_openOnes wsX0_openOnes) := goodIn_app (goodIn_of _ (by decide +kernel)) ggX8_count_X0_openOnes
set_option maxRecDepth 20000 in
theorem ggX8_count_X2_allBalls : GoodIn wsX8_count wsX2_allBalls := goodIn_r _ [22, 23, 24, 34, 35, 36, 37, 38, 39, 40, 41] (by decide +kernel) (by decide +kernel)
set_option maxRecDepth 20000 in
theorem gX8_count_X2_allBalls : GoodIn wsX8_count (wsV RX8 343 RX2 yX2_allBalls wsX2_allBalls) := goodIn_app (goodIn_of _ (by decide +kernel)) ggX8_count_X2_allBalls
theorem dX8_count_0 : decode cX8_count 0 = .ok (.iload_n 1, 1) := by decide +kernel
theorem dX8_count_1 : decode cX8_count 1 = .ok (.tableswitch 109 0 5 #[39, 47, 55, 63, 71, 82], 39) := by decide +kernel
theorem dX8_count_40 : decode cX8_count 40 = .ok (.aload_n 0, 1) := by decide +kernel
theorem dX8_count_41 : decode cX8_count 41 = .ok (.getfield 10, 3) := by decide +kernel
theorem dX8_count_44 : decode cX8_count 44 = .ok (.getfield 101, 3) := by decide +kernel
theorem dX8_count_47 : decode cX8_count 47 = .ok (.ireturn, 1) := by decide +kernel
theorem dX8_count_48 : decode cX8_count 48 = .ok (.aload_n 0, 1) := by decide +kernel
theorem dX8_count_49 : decode cX8_count 49 = .ok (.getfield 19, 3) := by decide +kernel
theorem dX8_count_52 : decode cX8_count 52 = .ok (.getfield 95, 3) := by decide +kernel
theorem dX8_count_55 : decode cX8_count 55 = .ok (.ireturn, 1) := by decide +kernel
theorem dX8_count_56 : decode cX8_count 56 = .ok (.aload_n 0, 1) := by decide +kernel
theorem dX8_count_57 : decode cX8_count 57 = .ok (.getfield 19, 3) := by decide +kernel
theorem dX8_count_60 : decode cX8_count 60 = .ok (.invokevirtual 170, 3) := by decide +kernel
theorem dX8_count_63 : decode cX8_count 63 = .ok (.ireturn, 1) := by decide +kernel
theorem dX8_count_64 : decode cX8_count 64 = .ok (.aload_n 0, 1) := by decide +kernel
theorem dX8_count_65 : decode cX8_count 65 = .ok (.getfield 10, 3) := by decide +kernel
theorem dX8_count_68 : decode cX8_count 68 = .ok (.invokevirtual 343, 3) := by decide +kernel
theorem dX8_count_71 : decode cX8_count 71 = .ok (.ireturn, 1) := by decide +kernel
theorem dX8_count_72 : decode cX8_count 72 = .ok (.aload_n 0, 1) := by decide +kernel
theorem dX8_count_73 : decode cX8_count 73 = .ok (.getfield 33, 3) := by decide +kernel
theorem dX8_count_76 : decode cX8_count 76 = .ok (.getfield 61, 3) := by decide +kernel
theorem dX8_count_79 : decode cX8_count 79 = .ok (.getfield 65, 3) := by decide +kernel
theorem dX8_count_82 : decode cX8_count 82 = .ok (.ireturn, 1) := by decide +kernel
theorem dX8_count_83 : decode cX8_count 83 = .ok (.aload_n 0, 1) := by decide +kernel
theorem dX8_count_84 : decode cX8_count 84 = .ok (.getfield 53, 3) := by decide +kernel
theorem dX8_count_87 : decode cX8_count 87 = .ok (.iconst 0, 1) := by decide +kernel
theorem dX8_count_88 : decode cX8_count 88 = .ok (.aaload, 1) := by decide +kernel
theorem dX8_count_89 : decode cX8_count 89 = .ok (.getfield 320, 3) := by decide +kernel
theorem dX8_count_92 : decode cX8_count 92 = .ok (.ifCond .eq 15, 3) := by decide +kernel
theorem dX8_count_95 : decode cX8_count 95 = .ok (.aload_n 0, 1) := by decide +kernel
theorem dX8_count_96 : decode cX8_count 96 = .ok (.getfield 53, 3) := by decide +kernel
theorem dX8_count_99 : decode cX8_count 99 = .ok (.iconst 0, 1) := by decide +kernel
theorem dX8_count_100 : decode cX8_count 100 = .ok (.aaload, 1) := by decide +kernel
theorem dX8_count_101 : decode cX8_count 101 = .ok (.getfield 346, 3) := by decide +kernel
theorem dX8_count_104 : decode cX8_count 104 = .ok (.goto 5, 3) := by decide +kernel
theorem dX8_count_107 : decode cX8_count 107 = .ok (.bipush (-4), 2) := by decide +kernel
theorem dX8_count_109 : decode cX8_count 109 = .ok (.ireturn, 1) := by decide +kernel
theorem dX8_count_110 : decode cX8_count 110 = .ok (.iconst (-1), 1) := by decide +kernel
theorem dX8_count_111 : decode cX8_count 111 = .ok (.ireturn, 1) := by decide +kernel
theorem dX8_isSide_0 : decode cX8_isSide 0 = .ok (.iload_n 1, 1) := by decide +kernel
theorem dX8_isSide_1 : decode cX8_isSide 1 = .ok (.ifCond .lt 18, 3) := by decide +kernel
theorem dX8_isSide_4 : decode cX8_isSide 4 = .ok (.iload_n 1, 1) := by decide +kernel
theorem dX8_isSide_5 : decode cX8_isSide 5 = .ok (.aload_n 0, 1) := by decide +kernel
theorem dX8_isSide_6 : decode cX8_isSide 6 = .ok (.getfield 10, 3) := by decide +kernel
theorem dX8_isSide_9 : decode cX8_isSide 9 = .ok (.getfield 101, 3) := by decide +kernel
theorem dX8_isSide_12 : decode cX8_isSide 12 = .ok (.if_icmp .ge 7, 3) := by decide +kernel
theorem dX8_isSide_15 : decode cX8_isSide 15 = .ok (.iconst 1, 1) := by decide +kernel
theorem dX8_isSide_16 : decode cX8_isSide 16 = .ok (.goto 4, 3) := by decide +kernel
theorem dX8_isSide_19 : decode cX8_isSide 19 = .ok (.iconst 0, 1) := by decide +kernel
theorem dX8_isSide_20 : decode cX8_isSide 20 = .ok (.ireturn, 1) := by decide +kernel
theorem dX8_isPart_0 : decode cX8_isPart 0 = .ok (.iload_n 0, 1) := by decide +kernel
theorem dX8_isPart_1 : decode cX8_isPart 1 = .ok (.ifCond .eq 8, 3) := by decide +kernel
theorem dX8_isPart_4 : decode cX8_isPart 4 = .ok (.iload_n 0, 1) := by decide +kernel
theorem dX8_isPart_5 : decode cX8_isPart 5 = .ok (.iconst 1, 1) := by decide +kernel
theorem dX8_isPart_6 : decode cX8_isPart 6 = .ok (.if_icmp .ne 7, 3) := by decide +kernel
theorem dX8_isPart_9 : decode cX8_isPart 9 = .ok (.iconst 1, 1) := by decide +kernel
theorem dX8_isPart_10 : decode cX8_isPart 10 = .ok (.goto 4, 3) := by decide +kernel
theorem dX8_isPart_13 : decode cX8_isPart 13 = .ok (.iconst 0, 1) := by decide +kernel
theorem dX8_isPart_14 : decode cX8_isPart 14 = .ok (.ireturn, 1) := by decide +kernel
theorem dX8_isSheet_0 : decode cX8_isSheet 0 = .ok (.iload_n 0, 1) := by decide +kernel
theorem dX8_isSheet_1 : decode cX8_isSheet 1 = .ok (.ifCond .lt 12, 3) := by decide +kernel
theorem dX8_isSheet_4 : decode cX8_isSheet 4 = .ok (.iload_n 0, 1) := by decide +kernel
theorem dX8_isSheet_5 : decode cX8_isSheet 5 = .ok (.iconst 4, 1) := by decide +kernel
theorem dX8_isSheet_6 : decode cX8_isSheet 6 = .ok (.if_icmp .ge 7, 3) := by decide +kernel
theorem dX8_isSheet_9 : decode cX8_isSheet 9 = .ok (.iconst 1, 1) := by decide +kernel
theorem dX8_isSheet_10 : decode cX8_isSheet 10 = .ok (.goto 4, 3) := by decide +kernel
theorem dX8_isSheet_13 : decode cX8_isSheet 13 = .ok (.iconst 0, 1) := by decide +kernel
theorem dX8_isSheet_14 : decode cX8_isSheet 14 = .ok (.ireturn, 1) := by decide +kernel
theorem dX8_isLane_0 : decode cX8_isLane 0 = .ok (.iload_n 0, 1) := by decide +kernel
theorem dX8_isLane_1 : decode cX8_isLane 1 = .ok (.ifCond .lt 12, 3) := by decide +kernel
theorem dX8_isLane_4 : decode cX8_isLane 4 = .ok (.iload_n 0, 1) := by decide +kernel
theorem dX8_isLane_5 : decode cX8_isLane 5 = .ok (.iconst 3, 1) := by decide +kernel
theorem dX8_isLane_6 : decode cX8_isLane 6 = .ok (.if_icmp .ge 7, 3) := by decide +kernel
theorem dX8_isLane_9 : decode cX8_isLane 9 = .ok (.iconst 1, 1) := by decide +kernel
theorem dX8_isLane_10 : decode cX8_isLane 10 = .ok (.goto 4, 3) := by decide +kernel
theorem dX8_isLane_13 : decode cX8_isLane 13 = .ok (.iconst 0, 1) := by decide +kernel
theorem dX8_isLane_14 : decode cX8_isLane 14 = .ok (.ireturn, 1) := by decide +kernel
theorem dX8_takeEnds_0 : decode cX8_takeEnds 0 = .ok (.iconst 0, 1) := by decide +kernel
theorem dX8_takeEnds_1 : decode cX8_takeEnds 1 = .ok (.istore 5, 2) := by decide +kernel
theorem dX8_takeEnds_3 : decode cX8_takeEnds 3 = .ok (.iconst 0, 1) := by decide +kernel
theorem dX8_takeEnds_4 : decode cX8_takeEnds 4 = .ok (.istore 6, 2) := by decide +kernel
theorem dX8_takeEnds_6 : decode cX8_takeEnds 6 = .ok (.iload 6, 2) := by decide +kernel
theorem dX8_takeEnds_8 : decode cX8_takeEnds 8 = .ok (.iload 4, 2) := by decide +kernel
theorem dX8_takeEnds_10 : decode cX8_takeEnds 10 = .ok (.if_icmp .ge 54, 3) := by decide +kernel
theorem dX8_takeEnds_13 : decode cX8_takeEnds 13 = .ok (.aload_n 1, 1) := by decide +kernel
theorem dX8_takeEnds_14 : decode cX8_takeEnds 14 = .ok (.getfield 330, 3) := by decide +kernel
theorem dX8_takeEnds_17 : decode cX8_takeEnds 17 = .ok (.iload_n 2, 1) := by decide +kernel
theorem dX8_takeEnds_18 : decode cX8_takeEnds 18 = .ok (.iload 6, 2) := by decide +kernel
theorem dX8_takeEnds_20 : decode cX8_takeEnds 20 = .ok (.iadd, 1) := by decide +kernel
theorem dX8_takeEnds_21 : decode cX8_takeEnds 21 = .ok (.iaload, 1) := by decide +kernel
theorem dX8_takeEnds_22 : decode cX8_takeEnds 22 = .ok (.istore 7, 2) := by decide +kernel
theorem dX8_takeEnds_24 : decode cX8_takeEnds 24 = .ok (.aload_n 0, 1) := by decide +kernel
theorem dX8_takeEnds_25 : decode cX8_takeEnds 25 = .ok (.getfield 19, 3) := by decide +kernel
theorem dX8_takeEnds_28 : decode cX8_takeEnds 28 = .ok (.getfield 147, 3) := by decide +kernel
theorem dX8_takeEnds_31 : decode cX8_takeEnds 31 = .ok (.iload_n 3, 1) := by decide +kernel
theorem dX8_takeEnds_32 : decode cX8_takeEnds 32 = .ok (.iload 6, 2) := by decide +kernel
theorem dX8_takeEnds_34 : decode cX8_takeEnds 34 = .ok (.iadd, 1) := by decide +kernel
theorem dX8_takeEnds_35 : decode cX8_takeEnds 35 = .ok (.iaload, 1) := by decide +kernel
theorem dX8_takeEnds_36 : decode cX8_takeEnds 36 = .ok (.iload 7, 2) := by decide +kernel
theorem dX8_takeEnds_38 : decode cX8_takeEnds 38 = .ok (.if_icmp .eq 20, 3) := by decide +kernel
theorem dX8_takeEnds_41 : decode cX8_takeEnds 41 = .ok (.aload_n 0, 1) := by decide +kernel
theorem dX8_takeEnds_42 : decode cX8_takeEnds 42 = .ok (.getfield 19, 3) := by decide +kernel
theorem dX8_takeEnds_45 : decode cX8_takeEnds 45 = .ok (.getfield 147, 3) := by decide +kernel
theorem dX8_takeEnds_48 : decode cX8_takeEnds 48 = .ok (.iload_n 3, 1) := by decide +kernel
theorem dX8_takeEnds_49 : decode cX8_takeEnds 49 = .ok (.iload 6, 2) := by decide +kernel
theorem dX8_takeEnds_51 : decode cX8_takeEnds 51 = .ok (.iadd, 1) := by decide +kernel
theorem dX8_takeEnds_52 : decode cX8_takeEnds 52 = .ok (.iload 7, 2) := by decide +kernel
theorem dX8_takeEnds_54 : decode cX8_takeEnds 54 = .ok (.iastore, 1) := by decide +kernel
theorem dX8_takeEnds_55 : decode cX8_takeEnds 55 = .ok (.iinc 5 1, 3) := by decide +kernel
theorem dX8_takeEnds_58 : decode cX8_takeEnds 58 = .ok (.iinc 6 1, 3) := by decide +kernel
theorem dX8_takeEnds_61 : decode cX8_takeEnds 61 = .ok (.goto (-55), 3) := by decide +kernel
theorem dX8_takeEnds_64 : decode cX8_takeEnds 64 = .ok (.iload 5, 2) := by decide +kernel
theorem dX8_takeEnds_66 : decode cX8_takeEnds 66 = .ok (.ireturn, 1) := by decide +kernel
theorem dX8_chance_0 : decode cX8_chance 0 = .ok (.iload_n 0, 1) := by decide +kernel
theorem dX8_chance_1 : decode cX8_chance 1 = .ok (.iload_n 1, 1) := by decide +kernel
theorem dX8_chance_2 : decode cX8_chance 2 = .ok (.iadd, 1) := by decide +kernel
theorem dX8_chance_3 : decode cX8_chance 3 = .ok (.istore_n 2, 1) := by decide +kernel
theorem dX8_chance_4 : decode cX8_chance 4 = .ok (.iload_n 2, 1) := by decide +kernel
theorem dX8_chance_5 : decode cX8_chance 5 = .ok (.ifCond .gt 5, 3) := by decide +kernel
theorem dX8_chance_8 : decode cX8_chance 8 = .ok (.iconst 1, 1) := by decide +kernel
theorem dX8_chance_9 : decode cX8_chance 9 = .ok (.ireturn, 1) := by decide +kernel
theorem dX8_chance_10 : decode cX8_chance 10 = .ok (.iconst 1, 1) := by decide +kernel
theorem dX8_chance_11 : decode cX8_chance 11 = .ok (.bipush 15, 2) := by decide +kernel
theorem dX8_chance_13 : decode cX8_chance 13 = .ok (.bipush 16, 2) := by decide +kernel
theorem dX8_chance_15 : decode cX8_chance 15 = .ok (.iload_n 0, 1) := by decide +kernel
theorem dX8_chance_16 : decode cX8_chance 16 = .ok (.imul, 1) := by decide +kernel
theorem dX8_chance_17 : decode cX8_chance 17 = .ok (.iload_n 2, 1) := by decide +kernel
theorem dX8_chance_18 : decode cX8_chance 18 = .ok (.idiv, 1) := by decide +kernel
theorem dX8_chance_19 : decode cX8_chance 19 = .ok (.invokestatic 347, 3) := by decide +kernel
theorem dX8_chance_22 : decode cX8_chance 22 = .ok (.invokestatic 352, 3) := by decide +kernel
theorem dX8_chance_25 : decode cX8_chance 25 = .ok (.ireturn, 1) := by decide +kernel
theorem dX8_rested_0 : decode cX8_rested 0 = .ok (.iconst 1, 1) := by decide +kernel
theorem dX8_rested_1 : decode cX8_rested 1 = .ok (.iload_n 0, 1) := by decide +kernel
theorem dX8_rested_2 : decode cX8_rested 2 = .ok (.iconst 2, 1) := by decide +kernel
theorem dX8_rested_3 : decode cX8_rested 3 = .ok (.idiv, 1) := by decide +kernel
theorem dX8_rested_4 : decode cX8_rested 4 = .ok (.invokestatic 352, 3) := by decide +kernel
theorem dX8_rested_7 : decode cX8_rested 7 = .ok (.ireturn, 1) := by decide +kernel
set_option maxRecDepth 20000 in
theorem ggX8_part_X8_divisor : GoodIn wsX8_part wsX8_divisor := goodIn_r _ [4] (by decide +kernel) (by decide +kernel)
set_option maxRecDepth 20000 in
theorem gX8_part_X8_divisor : GoodIn wsX8_part (va_wsS RX8 355 yX8_divisor wsX8_divisor) := goodIn_app (goodIn_of _ (by decide +kernel)) ggX8_part_X8_divisor
theorem dX8_part_0 : decode cX8_part 0 = .ok (.lload_n 0, 1) := by decide +kernel
theorem dX8_part_1 : decode cX8_part 1 = .ok (.lload_n 2, 1) := by decide +kernel
theorem dX8_part_2 : decode cX8_part 2 = .ok (.invokestatic 355, 3) := by decide +kernel
theorem dX8_part_5 : decode cX8_part 5 = .ok (.lstore 5, 2) := by decide +kernel
theorem dX8_part_7 : decode cX8_part 7 = .ok (.lload 5, 2) := by decide +kernel
theorem dX8_part_9 : decode cX8_part 9 = .ok (.lconst 0, 1) := by decide +kernel
theorem dX8_part_10 : decode cX8_part 10 = .ok (.lcmp, 1) := by decide +kernel
theorem dX8_part_11 : decode cX8_part 11 = .ok (.ifCond .gt 5, 3) := by decide +kernel
theorem dX8_part_14 : decode cX8_part 14 = .ok (.lconst 0, 1) := by decide +kernel
theorem dX8_part_15 : decode cX8_part 15 = .ok (.lreturn, 1) := by decide +kernel
theorem dX8_part_16 : decode cX8_part 16 = .ok (.iload 4, 2) := by decide +kernel
theorem dX8_part_18 : decode cX8_part 18 = .ok (.ifCond .ne 10, 3) := by decide +kernel
theorem dX8_part_21 : decode cX8_part 21 = .ok (.lload_n 0, 1) := by decide +kernel
theorem dX8_part_22 : decode cX8_part 22 = .ok (.lload 5, 2) := by decide +kernel
theorem dX8_part_24 : decode cX8_part 24 = .ok (.ldiv, 1) := by decide +kernel
theorem dX8_part_25 : decode cX8_part 25 = .ok (.goto 7, 3) := by decide +kernel
theorem dX8_part_28 : decode cX8_part 28 = .ok (.lload_n 2, 1) := by decide +kernel
theorem dX8_part_29 : decode cX8_part 29 = .ok (.lload 5, 2) := by decide +kernel
theorem dX8_part_31 : decode cX8_part 31 = .ok (.ldiv, 1) := by decide +kernel
theorem dX8_part_32 : decode cX8_part 32 = .ok (.lreturn, 1) := by decide +kernel
theorem dX8_divisor_0 : decode cX8_divisor 0 = .ok (.iconst 0, 1) := by decide +kernel
theorem dX8_divisor_1 : decode cX8_divisor 1 = .ok (.istore 4, 2) := by decide +kernel
theorem dX8_divisor_3 : decode cX8_divisor 3 = .ok (.iload 4, 2) := by decide +kernel
theorem dX8_divisor_5 : decode cX8_divisor 5 = .ok (.bipush 100, 2) := by decide +kernel
theorem dX8_divisor_7 : decode cX8_divisor 7 = .ok (.if_icmp .ge 25, 3) := by decide +kernel
theorem dX8_divisor_10 : decode cX8_divisor 10 = .ok (.lload_n 2, 1) := by decide +kernel
theorem dX8_divisor_11 : decode cX8_divisor 11 = .ok (.lconst 0, 1) := by decide +kernel
theorem dX8_divisor_12 : decode cX8_divisor 12 = .ok (.lcmp, 1) := by decide +kernel
theorem dX8_divisor_13 : decode cX8_divisor 13 = .ok (.ifCond .eq 19, 3) := by decide +kernel
theorem dX8_divisor_16 : decode cX8_divisor 16 = .ok (.lload_n 0, 1) := by decide +kernel
theorem dX8_divisor_17 : decode cX8_divisor 17 = .ok (.lload_n 2, 1) := by decide +kernel
theorem dX8_divisor_18 : decode cX8_divisor 18 = .ok (.lrem, 1) := by decide +kernel
theorem dX8_divisor_19 : decode cX8_divisor 19 = .ok (.lstore 5, 2) := by decide +kernel
theorem dX8_divisor_21 : decode cX8_divisor 21 = .ok (.lload_n 2, 1) := by decide +kernel
theorem dX8_divisor_22 : decode cX8_divisor 22 = .ok (.lstore_n 0, 1) := by decide +kernel
theorem dX8_divisor_23 : decode cX8_divisor 23 = .ok (.lload 5, 2) := by decide +kernel
theorem dX8_divisor_25 : decode cX8_divisor 25 = .ok (.lstore_n 2, 1) := by decide +kernel
theorem dX8_divisor_26 : decode cX8_divisor 26 = .ok (.iinc 4 1, 3) := by decide +kernel
theorem dX8_divisor_29 : decode cX8_divisor 29 = .ok (.goto (-26), 3) := by decide +kernel
theorem dX8_divisor_32 : decode cX8_divisor 32 = .ok (.lload_n 0, 1) := by decide +kernel
theorem dX8_divisor_33 : decode cX8_divisor 33 = .ok (.lreturn, 1) := by decide +kernel
theorem dX8_power_0 : decode cX8_power 0 = .ok (.lconst 1, 1) := by decide +kernel
theorem dX8_power_1 : decode cX8_power 1 = .ok (.lstore_n 2, 1) := by decide +kernel
theorem dX8_power_2 : decode cX8_power 2 = .ok (.iconst 0, 1) := by decide +kernel
theorem dX8_power_3 : decode cX8_power 3 = .ok (.istore 4, 2) := by decide +kernel
theorem dX8_power_5 : decode cX8_power 5 = .ok (.iload 4, 2) := by decide +kernel
theorem dX8_power_7 : decode cX8_power 7 = .ok (.iload_n 1, 1) := by decide +kernel
theorem dX8_power_8 : decode cX8_power 8 = .ok (.if_icmp .ge 14, 3) := by decide +kernel
theorem dX8_power_11 : decode cX8_power 11 = .ok (.lload_n 2, 1) := by decide +kernel
theorem dX8_power_12 : decode cX8_power 12 = .ok (.iload_n 0, 1) := by decide +kernel
theorem dX8_power_13 : decode cX8_power 13 = .ok (.i2l, 1) := by decide +kernel
theorem dX8_power_14 : decode cX8_power 14 = .ok (.lmul, 1) := by decide +kernel
theorem dX8_power_15 : decode cX8_power 15 = .ok (.lstore_n 2, 1) := by decide +kernel
theorem dX8_power_16 : decode cX8_power 16 = .ok (.iinc 4 1, 3) := by decide +kernel
theorem dX8_power_19 : decode cX8_power 19 = .ok (.goto (-14), 3) := by decide +kernel
theorem dX8_power_22 : decode cX8_power 22 = .ok (.lload_n 2, 1) := by decide +kernel
theorem dX8_power_23 : decode cX8_power 23 = .ok (.lreturn, 1) := by decide +kernel
set_option maxRecDepth 20000 in
theorem ggX8_restedOrMore_X8_power : GoodIn wsX8_restedOrMore wsX8_power := goodIn_r _ [4] (by decide +kernel) (by decide +kernel)
set_option maxRecDepth 20000 in
theorem gX8_restedOrMore_X8_power : GoodIn wsX8_restedOrMore (va_wsS RX8 307 yX8_power wsX8_power) := goodIn_app (goodIn_of _ (by decide +kernel)) ggX8_restedOrMore_X8_power
theorem dX8_restedOrMore_0 : decode cX8_restedOrMore 0 = .ok (.lconst 0, 1) := by decide +kernel
theorem dX8_restedOrMore_1 : decode cX8_restedOrMore 1 = .ok (.lstore_n 2, 1) := by decide +kernel
theorem dX8_restedOrMore_2 : decode cX8_restedOrMore 2 = .ok (.lconst 1, 1) := by decide +kernel
theorem dX8_restedOrMore_3 : decode cX8_restedOrMore 3 = .ok (.lstore 4, 2) := by decide +kernel
theorem dX8_restedOrMore_5 : decode cX8_restedOrMore 5 = .ok (.iconst 0, 1) := by decide +kernel
theorem dX8_restedOrMore_6 : decode cX8_restedOrMore 6 = .ok (.istore 6, 2) := by decide +kernel
theorem dX8_restedOrMore_8 : decode cX8_restedOrMore 8 = .ok (.iload 6, 2) := by decide +kernel
theorem dX8_restedOrMore_10 : decode cX8_restedOrMore 10 = .ok (.iload_n 0, 1) := by decide +kernel
theorem dX8_restedOrMore_11 : decode cX8_restedOrMore 11 = .ok (.if_icmp .gt 45, 3) := by decide +kernel
theorem dX8_restedOrMore_14 : decode cX8_restedOrMore 14 = .ok (.iload 6, 2) := by decide +kernel
theorem dX8_restedOrMore_16 : decode cX8_restedOrMore 16 = .ok (.iload_n 1, 1) := by decide +kernel
theorem dX8_restedOrMore_17 : decode cX8_restedOrMore 17 = .ok (.if_icmp .lt 17, 3) := by decide +kernel
theorem dX8_restedOrMore_20 : decode cX8_restedOrMore 20 = .ok (.lload_n 2, 1) := by decide +kernel
theorem dX8_restedOrMore_21 : decode cX8_restedOrMore 21 = .ok (.lload 4, 2) := by decide +kernel
theorem dX8_restedOrMore_23 : decode cX8_restedOrMore 23 = .ok (.iconst 5, 1) := by decide +kernel
theorem dX8_restedOrMore_24 : decode cX8_restedOrMore 24 = .ok (.iload_n 0, 1) := by decide +kernel
theorem dX8_restedOrMore_25 : decode cX8_restedOrMore 25 = .ok (.iload 6, 2) := by decide +kernel
theorem dX8_restedOrMore_27 : decode cX8_restedOrMore 27 = .ok (.isub, 1) := by decide +kernel
theorem dX8_restedOrMore_28 : decode cX8_restedOrMore 28 = .ok (.invokestatic 307, 3) := by decide +kernel
theorem dX8_restedOrMore_31 : decode cX8_restedOrMore 31 = .ok (.lmul, 1) := by decide +kernel
theorem dX8_restedOrMore_32 : decode cX8_restedOrMore 32 = .ok (.ladd, 1) := by decide +kernel
theorem dX8_restedOrMore_33 : decode cX8_restedOrMore 33 = .ok (.lstore_n 2, 1) := by decide +kernel
theorem dX8_restedOrMore_34 : decode cX8_restedOrMore 34 = .ok (.lload 4, 2) := by decide +kernel
theorem dX8_restedOrMore_36 : decode cX8_restedOrMore 36 = .ok (.iload_n 0, 1) := by decide +kernel
theorem dX8_restedOrMore_37 : decode cX8_restedOrMore 37 = .ok (.iload 6, 2) := by decide +kernel
theorem dX8_restedOrMore_39 : decode cX8_restedOrMore 39 = .ok (.isub, 1) := by decide +kernel
theorem dX8_restedOrMore_40 : decode cX8_restedOrMore 40 = .ok (.i2l, 1) := by decide +kernel
theorem dX8_restedOrMore_41 : decode cX8_restedOrMore 41 = .ok (.lmul, 1) := by decide +kernel
theorem dX8_restedOrMore_42 : decode cX8_restedOrMore 42 = .ok (.iload 6, 2) := by decide +kernel
theorem dX8_restedOrMore_44 : decode cX8_restedOrMore 44 = .ok (.iconst 1, 1) := by decide +kernel
theorem dX8_restedOrMore_45 : decode cX8_restedOrMore 45 = .ok (.iadd, 1) := by decide +kernel
theorem dX8_restedOrMore_46 : decode cX8_restedOrMore 46 = .ok (.i2l, 1) := by decide +kernel
theorem dX8_restedOrMore_47 : decode cX8_restedOrMore 47 = .ok (.ldiv, 1) := by decide +kernel
theorem dX8_restedOrMore_48 : decode cX8_restedOrMore 48 = .ok (.lstore 4, 2) := by decide +kernel
theorem dX8_restedOrMore_50 : decode cX8_restedOrMore 50 = .ok (.iinc 6 1, 3) := by decide +kernel
theorem dX8_restedOrMore_53 : decode cX8_restedOrMore 53 = .ok (.goto (-45), 3) := by decide +kernel
theorem dX8_restedOrMore_56 : decode cX8_restedOrMore 56 = .ok (.lload_n 2, 1) := by decide +kernel
theorem dX8_restedOrMore_57 : decode cX8_restedOrMore 57 = .ok (.lreturn, 1) := by decide +kernel
