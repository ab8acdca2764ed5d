theorem dX0_init_0 : decode cX0_init 0 = .ok (.aload_n 0, 1) := by decide +kernel
theorem dX0_init_1 : decode cX0_init 1 = .ok (.invokespecial 3, 3) := by decide +kernel
theorem dX0_init_4 : decode cX0_init 4 = .ok (.aload_n 0, 1) := by decide +kernel
theorem dX0_init_5 : decode cX0_init 5 = .ok (.new 9, 3) := by decide +kernel
theorem dX0_init_8 : decode cX0_init 8 = .ok (.dup, 1) := by decide +kernel
theorem dX0_init_9 : decode cX0_init 9 = .ok (.invokespecial 11, 3) := by decide +kernel
theorem dX0_init_12 : decode cX0_init 12 = .ok (.putfield 12, 3) := by decide +kernel
theorem dX0_init_15 : decode cX0_init 15 = .ok (.aload_n 0, 1) := by decide +kernel
theorem dX0_init_16 : decode cX0_init 16 = .ok (.sipush 301, 3) := by decide +kernel
theorem dX0_init_19 : decode cX0_init 19 = .ok (.newarray .long, 2) := by decide +kernel
theorem dX0_init_21 : decode cX0_init 21 = .ok (.putfield 18, 3) := by decide +kernel
theorem dX0_init_24 : decode cX0_init 24 = .ok (.aload_n 0, 1) := by decide +kernel
theorem dX0_init_25 : decode cX0_init 25 = .ok (.sipush 301, 3) := by decide +kernel
theorem dX0_init_28 : decode cX0_init 28 = .ok (.newarray .int, 2) := by decide +kernel
theorem dX0_init_30 : decode cX0_init 30 = .ok (.putfield 22, 3) := by decide +kernel
theorem dX0_init_33 : decode cX0_init 33 = .ok (.return_, 1) := by decide +kernel
set_option maxRecDepth 20000 in
theorem ggX0_follow_X1_copyFrom : GoodIn wsX0_follow wsX1_copyFrom := goodIn_r _ [14, 15, 16, 17, 18, 19, 20, 21, 22, 23, 24, 25, 26, 27, 28, 29, 30, 31, 32, 33, 34, 35, 36, 37, 38, 39, 40, 41, 42, 43, 44, 45, 46, 47, 48, 49, 50, 51, 52, 53, 140, 141, 142, 143, 144, 145, 151, 152, 153, 154, 155, 156, 157, 158, 159, 160, 161, 162, 163, 164, 165, 146, 147, 148, 149, 150] (by decide +kernel) (by decide +kernel)
set_option maxRecDepth 20000 in
theorem gX0_follow_X1_copyFrom : GoodIn wsX0_follow (wsV RX0 26 RX1 yX1_copyFrom wsX1_copyFrom) := goodIn_app (goodIn_of _ (by decide +kernel)) ggX0_follow_X1_copyFrom
set_option maxRecDepth 20000 in
theorem ggX0_follow_X1_isQuiet : GoodIn wsX0_follow wsX1_isQuiet := goodIn_r _ [57, 17, 15, 58, 59, 60, 23, 61, 36, 32, 62, 63, 64, 65, 37, 29, 66, 67, 68, 69, 39, 26, 27, 140, 141, 142, 143, 144, 145, 151, 152, 153, 154, 155, 156, 157, 158, 159, 160, 161, 162, 163, 164, 165] (by decide +kernel) (by decide +kernel)
set_option maxRecDepth 20000 in
theorem gX0_follow_X1_isQuiet : GoodIn wsX0_follow (wsV RX0 43 RX1 yX1_isQuiet wsX1_isQuiet) := goodIn_app (goodIn_of _ (by decide +kernel)) ggX0_follow_X1_isQuiet
set_option maxRecDepth 20000 in
theorem ggX0_follow_X1_packed : GoodIn wsX0_follow wsX1_packed := goodIn_r _ [73, 17, 15, 74, 75, 76, 140, 141, 142, 143, 144, 145, 151, 152, 153, 154, 155, 156, 157, 158, 159, 160, 161, 162, 163, 164, 165] (by decide +kernel) (by decide +kernel)
set_option maxRecDepth 20000 in
theorem gX0_follow_X1_packed : GoodIn wsX0_follow (wsV RX0 47 RX1 yX1_packed wsX1_packed) := goodIn_app (goodIn_of _ (by decide +kernel)) ggX0_follow_X1_packed
set_option maxRecDepth 20000 in
theorem ggX0_follow_X0_firstLike : GoodIn wsX0_follow wsX0_firstLike := goodIn_r _ [81, 6, 133, 134, 135, 136, 137, 138, 139] (by decide +kernel) (by decide +kernel)
set_option maxRecDepth 20000 in
theorem gX0_follow_X0_firstLike : GoodIn wsX0_follow (wsV RX0 60 RX0 yX0_firstLike wsX0_firstLike) := goodIn_app (goodIn_of _ (by decide +kernel)) ggX0_follow_X0_firstLike
set_option maxRecDepth 20000 in
theorem ggX0_follow_X1_runTick : GoodIn wsX0_follow wsX1_runTick := goodIn_r _ [85, 17, 15, 86, 75, 87, 19, 88, 89, 90, 23, 91, 33, 34, 62, 63, 64, 65, 37, 29, 66, 67, 68, 69, 39, 26, 27, 92, 93, 94, 13, 95, 58, 59, 60, 61, 36, 32, 96, 97, 98, 99, 100, 101, 102, 103, 104, 74, 16, 105, 106, 76, 107, 108, 109, 43, 110, 52, 45, 50, 51, 111, 112, 113, 114, 115, 116, 18, 117, 118, 119, 120, 121, 122, 25, 123, 124, 125, 126, 127, 128, 129, 130, 131, 132, 140, 141, 142, 143, 144, 145, 151, 152, 153, 154, 155, 156, 157, 158, 159, 160, 161, 162, 163, 164, 165, 146, 147, 148, 149, 150] (by decide +kernel) (by decide +kernel)
set_option maxRecDepth 20000 in
theorem gX0_follow_X1_runTick : GoodIn wsX0_follow (wsV RX0 64 RX1 yX1_runTick wsX1_runTick) := goodIn_app (goodIn_of _ (by decide +kernel)) ggX0_follow_X1_runTick
theorem dX0_follow_0 : decode cX0_follow 0 = .ok (.aload_n 0, 1) := by decide +kernel
theorem dX0_follow_1 : decode cX0_follow 1 = .ok (.getfield 12, 3) := by decide +kernel
theorem dX0_follow_4 : decode cX0_follow 4 = .ok (.aload_n 1, 1) := by decide +kernel
theorem dX0_follow_5 : decode cX0_follow 5 = .ok (.invokevirtual 26, 3) := by decide +kernel
theorem dX0_follow_8 : decode cX0_follow 8 = .ok (.aload_n 0, 1) := by decide +kernel
theorem dX0_follow_9 : decode cX0_follow 9 = .ok (.bipush (-4), 2) := by decide +kernel
theorem dX0_follow_11 : decode cX0_follow 11 = .ok (.putfield 30, 3) := by decide +kernel
theorem dX0_follow_14 : decode cX0_follow 14 = .ok (.aload_n 0, 1) := by decide +kernel
theorem dX0_follow_15 : decode cX0_follow 15 = .ok (.bipush (-4), 2) := by decide +kernel
theorem dX0_follow_17 : decode cX0_follow 17 = .ok (.putfield 34, 3) := by decide +kernel
theorem dX0_follow_20 : decode cX0_follow 20 = .ok (.aload_n 0, 1) := by decide +kernel
theorem dX0_follow_21 : decode cX0_follow 21 = .ok (.bipush (-4), 2) := by decide +kernel
theorem dX0_follow_23 : decode cX0_follow 23 = .ok (.putfield 37, 3) := by decide +kernel
theorem dX0_follow_26 : decode cX0_follow 26 = .ok (.aload_n 0, 1) := by decide +kernel
theorem dX0_follow_27 : decode cX0_follow 27 = .ok (.bipush (-4), 2) := by decide +kernel
theorem dX0_follow_29 : decode cX0_follow 29 = .ok (.putfield 40, 3) := by decide +kernel
theorem dX0_follow_32 : decode cX0_follow 32 = .ok (.iconst 0, 1) := by decide +kernel
theorem dX0_follow_33 : decode cX0_follow 33 = .ok (.istore_n 2, 1) := by decide +kernel
theorem dX0_follow_34 : decode cX0_follow 34 = .ok (.iload_n 2, 1) := by decide +kernel
theorem dX0_follow_35 : decode cX0_follow 35 = .ok (.sipush 300, 3) := by decide +kernel
theorem dX0_follow_38 : decode cX0_follow 38 = .ok (.if_icmp .gt 102, 3) := by decide +kernel
theorem dX0_follow_41 : decode cX0_follow 41 = .ok (.aload_n 0, 1) := by decide +kernel
theorem dX0_follow_42 : decode cX0_follow 42 = .ok (.getfield 12, 3) := by decide +kernel
theorem dX0_follow_45 : decode cX0_follow 45 = .ok (.invokevirtual 43, 3) := by decide +kernel
theorem dX0_follow_48 : decode cX0_follow 48 = .ok (.ifCond .eq 9, 3) := by decide +kernel
theorem dX0_follow_51 : decode cX0_follow 51 = .ok (.aload_n 0, 1) := by decide +kernel
theorem dX0_follow_52 : decode cX0_follow 52 = .ok (.iload_n 2, 1) := by decide +kernel
theorem dX0_follow_53 : decode cX0_follow 53 = .ok (.putfield 30, 3) := by decide +kernel
theorem dX0_follow_56 : decode cX0_follow 56 = .ok (.return_, 1) := by decide +kernel
theorem dX0_follow_57 : decode cX0_follow 57 = .ok (.aload_n 0, 1) := by decide +kernel
theorem dX0_follow_58 : decode cX0_follow 58 = .ok (.getfield 18, 3) := by decide +kernel
theorem dX0_follow_61 : decode cX0_follow 61 = .ok (.iload_n 2, 1) := by decide +kernel
theorem dX0_follow_62 : decode cX0_follow 62 = .ok (.aload_n 0, 1) := by decide +kernel
theorem dX0_follow_63 : decode cX0_follow 63 = .ok (.getfield 12, 3) := by decide +kernel
theorem dX0_follow_66 : decode cX0_follow 66 = .ok (.invokevirtual 47, 3) := by decide +kernel
theorem dX0_follow_69 : decode cX0_follow 69 = .ok (.lastore, 1) := by decide +kernel
theorem dX0_follow_70 : decode cX0_follow 70 = .ok (.aload_n 0, 1) := by decide +kernel
theorem dX0_follow_71 : decode cX0_follow 71 = .ok (.getfield 22, 3) := by decide +kernel
theorem dX0_follow_74 : decode cX0_follow 74 = .ok (.iload_n 2, 1) := by decide +kernel
theorem dX0_follow_75 : decode cX0_follow 75 = .ok (.aload_n 0, 1) := by decide +kernel
theorem dX0_follow_76 : decode cX0_follow 76 = .ok (.getfield 12, 3) := by decide +kernel
theorem dX0_follow_79 : decode cX0_follow 79 = .ok (.getfield 51, 3) := by decide +kernel
theorem dX0_follow_82 : decode cX0_follow 82 = .ok (.getfield 55, 3) := by decide +kernel
theorem dX0_follow_85 : decode cX0_follow 85 = .ok (.iastore, 1) := by decide +kernel
theorem dX0_follow_86 : decode cX0_follow 86 = .ok (.aload_n 0, 1) := by decide +kernel
theorem dX0_follow_87 : decode cX0_follow 87 = .ok (.iload_n 2, 1) := by decide +kernel
theorem dX0_follow_88 : decode cX0_follow 88 = .ok (.invokevirtual 60, 3) := by decide +kernel
theorem dX0_follow_91 : decode cX0_follow 91 = .ok (.istore_n 3, 1) := by decide +kernel
theorem dX0_follow_92 : decode cX0_follow 92 = .ok (.iload_n 3, 1) := by decide +kernel
theorem dX0_follow_93 : decode cX0_follow 93 = .ok (.iload_n 2, 1) := by decide +kernel
theorem dX0_follow_94 : decode cX0_follow 94 = .ok (.if_icmp .ge 33, 3) := by decide +kernel
theorem dX0_follow_97 : decode cX0_follow 97 = .ok (.aload_n 0, 1) := by decide +kernel
theorem dX0_follow_98 : decode cX0_follow 98 = .ok (.iload_n 3, 1) := by decide +kernel
theorem dX0_follow_99 : decode cX0_follow 99 = .ok (.putfield 34, 3) := by decide +kernel
theorem dX0_follow_102 : decode cX0_follow 102 = .ok (.aload_n 0, 1) := by decide +kernel
theorem dX0_follow_103 : decode cX0_follow 103 = .ok (.iload_n 2, 1) := by decide +kernel
theorem dX0_follow_104 : decode cX0_follow 104 = .ok (.iload_n 3, 1) := by decide +kernel
theorem dX0_follow_105 : decode cX0_follow 105 = .ok (.isub, 1) := by decide +kernel
theorem dX0_follow_106 : decode cX0_follow 106 = .ok (.putfield 37, 3) := by decide +kernel
theorem dX0_follow_109 : decode cX0_follow 109 = .ok (.aload_n 0, 1) := by decide +kernel
theorem dX0_follow_110 : decode cX0_follow 110 = .ok (.aload_n 0, 1) := by decide +kernel
theorem dX0_follow_111 : decode cX0_follow 111 = .ok (.getfield 22, 3) := by decide +kernel
theorem dX0_follow_114 : decode cX0_follow 114 = .ok (.iload_n 2, 1) := by decide +kernel
theorem dX0_follow_115 : decode cX0_follow 115 = .ok (.iaload, 1) := by decide +kernel
theorem dX0_follow_116 : decode cX0_follow 116 = .ok (.aload_n 0, 1) := by decide +kernel
theorem dX0_follow_117 : decode cX0_follow 117 = .ok (.getfield 22, 3) := by decide +kernel
theorem dX0_follow_120 : decode cX0_follow 120 = .ok (.iload_n 3, 1) := by decide +kernel
theorem dX0_follow_121 : decode cX0_follow 121 = .ok (.iaload, 1) := by decide +kernel
theorem dX0_follow_122 : decode cX0_follow 122 = .ok (.isub, 1) := by decide +kernel
theorem dX0_follow_123 : decode cX0_follow 123 = .ok (.putfield 40, 3) := by decide +kernel
theorem dX0_follow_126 : decode cX0_follow 126 = .ok (.return_, 1) := by decide +kernel
theorem dX0_follow_127 : decode cX0_follow 127 = .ok (.aload_n 0, 1) := by decide +kernel
theorem dX0_follow_128 : decode cX0_follow 128 = .ok (.getfield 12, 3) := by decide +kernel
theorem dX0_follow_131 : decode cX0_follow 131 = .ok (.invokevirtual 64, 3) := by decide +kernel
theorem dX0_follow_134 : decode cX0_follow 134 = .ok (.iinc 2 1, 3) := by decide +kernel
theorem dX0_follow_137 : decode cX0_follow 137 = .ok (.goto (-103), 3) := by decide +kernel
theorem dX0_follow_140 : decode cX0_follow 140 = .ok (.return_, 1) := by decide +kernel
theorem dX0_firstLike_0 : decode cX0_firstLike 0 = .ok (.iconst 0, 1) := by decide +kernel
theorem dX0_firstLike_1 : decode cX0_firstLike 1 = .ok (.istore_n 2, 1) := by decide +kernel
theorem dX0_firstLike_2 : decode cX0_firstLike 2 = .ok (.iload_n 2, 1) := by decide +kernel
theorem dX0_firstLike_3 : decode cX0_firstLike 3 = .ok (.iload_n 1, 1) := by decide +kernel
theorem dX0_firstLike_4 : decode cX0_firstLike 4 = .ok (.if_icmp .ge 27, 3) := by decide +kernel
theorem dX0_firstLike_7 : decode cX0_firstLike 7 = .ok (.aload_n 0, 1) := by decide +kernel
theorem dX0_firstLike_8 : decode cX0_firstLike 8 = .ok (.getfield 18, 3) := by decide +kernel
theorem dX0_firstLike_11 : decode cX0_firstLike 11 = .ok (.iload_n 2, 1) := by decide +kernel
theorem dX0_firstLike_12 : decode cX0_firstLike 12 = .ok (.laload, 1) := by decide +kernel
theorem dX0_firstLike_13 : decode cX0_firstLike 13 = .ok (.aload_n 0, 1) := by decide +kernel
theorem dX0_firstLike_14 : decode cX0_firstLike 14 = .ok (.getfield 18, 3) := by decide +kernel
theorem dX0_firstLike_17 : decode cX0_firstLike 17 = .ok (.iload_n 1, 1) := by decide +kernel
theorem dX0_firstLike_18 : decode cX0_firstLike 18 = .ok (.laload, 1) := by decide +kernel
theorem dX0_firstLike_19 : decode cX0_firstLike 19 = .ok (.lcmp, 1) := by decide +kernel
theorem dX0_firstLike_20 : decode cX0_firstLike 20 = .ok (.ifCond .ne 5, 3) := by decide +kernel
theorem dX0_firstLike_23 : decode cX0_firstLike 23 = .ok (.iload_n 2, 1) := by decide +kernel
theorem dX0_firstLike_24 : decode cX0_firstLike 24 = .ok (.ireturn, 1) := by decide +kernel
theorem dX0_firstLike_25 : decode cX0_firstLike 25 = .ok (.iinc 2 1, 3) := by decide +kernel
theorem dX0_firstLike_28 : decode cX0_firstLike 28 = .ok (.goto (-26), 3) := by decide +kernel
theorem dX0_firstLike_31 : decode cX0_firstLike 31 = .ok (.iload_n 1, 1) := by decide +kernel
theorem dX0_firstLike_32 : decode cX0_firstLike 32 = .ok (.ireturn, 1) := by decide +kernel
set_option maxRecDepth 20000 in
theorem ggX1_init_X5_init : GoodIn wsX1_init wsX5_init := goodIn_r _ [16, 17, 2, 3, 18, 19, 20, 21, 32, 33, 34, 35, 36] (by decide +kernel) (by decide +kernel)
set_option maxRecDepth 20000 in
theorem gX1_init_X5_init : GoodIn wsX1_init (wsX5_init) := ggX1_init_X5_init
set_option maxRecDepth 20000 in
theorem ggX1_init_X4_init : GoodIn wsX1_init wsX4_init := goodIn_r _ [24, 25, 2, 3] (by decide +kernel) (by decide +kernel)
set_option maxRecDepth 20000 in
theorem gX1_init_X4_init : GoodIn wsX1_init (wsX4_init) := ggX1_init_X4_init
theorem dX1_init_0 : decode cX1_init 0 = .ok (.aload_n 0, 1) := by decide +kernel
theorem dX1_init_1 : decode cX1_init 1 = .ok (.invokespecial 3, 3) := by decide +kernel
theorem dX1_init_4 : decode cX1_init 4 = .ok (.aload_n 0, 1) := by decide +kernel
theorem dX1_init_5 : decode cX1_init 5 = .ok (.iconst 4, 1) := by decide +kernel
theorem dX1_init_6 : decode cX1_init 6 = .ok (.anewarray 9, 3) := by decide +kernel
theorem dX1_init_9 : decode cX1_init 9 = .ok (.putfield 11, 3) := by decide +kernel
theorem dX1_init_12 : decode cX1_init 12 = .ok (.aload_n 0, 1) := by decide +kernel
theorem dX1_init_13 : decode cX1_init 13 = .ok (.iconst 4, 1) := by decide +kernel
theorem dX1_init_14 : decode cX1_init 14 = .ok (.newarray .boolean, 2) := by decide +kernel
theorem dX1_init_16 : decode cX1_init 16 = .ok (.putfield 17, 3) := by decide +kernel
theorem dX1_init_19 : decode cX1_init 19 = .ok (.aload_n 0, 1) := by decide +kernel
theorem dX1_init_20 : decode cX1_init 20 = .ok (.new 21, 3) := by decide +kernel
theorem dX1_init_23 : decode cX1_init 23 = .ok (.dup, 1) := by decide +kernel
theorem dX1_init_24 : decode cX1_init 24 = .ok (.invokespecial 23, 3) := by decide +kernel
theorem dX1_init_27 : decode cX1_init 27 = .ok (.putfield 24, 3) := by decide +kernel
theorem dX1_init_30 : decode cX1_init 30 = .ok (.iconst 0, 1) := by decide +kernel
theorem dX1_init_31 : decode cX1_init 31 = .ok (.istore_n 1, 1) := by decide +kernel
theorem dX1_init_32 : decode cX1_init 32 = .ok (.iload_n 1, 1) := by decide +kernel
theorem dX1_init_33 : decode cX1_init 33 = .ok (.iconst 4, 1) := by decide +kernel
theorem dX1_init_34 : decode cX1_init 34 = .ok (.if_icmp .ge 22, 3) := by decide +kernel
theorem dX1_init_37 : decode cX1_init 37 = .ok (.aload_n 0, 1) := by decide +kernel
theorem dX1_init_38 : decode cX1_init 38 = .ok (.getfield 11, 3) := by decide +kernel
theorem dX1_init_41 : decode cX1_init 41 = .ok (.iload_n 1, 1) := by decide +kernel
theorem dX1_init_42 : decode cX1_init 42 = .ok (.new 9, 3) := by decide +kernel
theorem dX1_init_45 : decode cX1_init 45 = .ok (.dup, 1) := by decide +kernel
theorem dX1_init_46 : decode cX1_init 46 = .ok (.invokespecial 28, 3) := by decide +kernel
theorem dX1_init_49 : decode cX1_init 49 = .ok (.aastore, 1) := by decide +kernel
theorem dX1_init_50 : decode cX1_init 50 = .ok (.iinc 1 1, 3) := by decide +kernel
theorem dX1_init_53 : decode cX1_init 53 = .ok (.goto (-21), 3) := by decide +kernel
theorem dX1_init_56 : decode cX1_init 56 = .ok (.return_, 1) := by decide +kernel
set_option maxRecDepth 20000 in
theorem ggX1_empty_X5_empty : GoodIn wsX1_empty wsX5_empty := goodIn_r _ [9, 10, 11, 18, 19, 20, 21, 22] (by decide +kernel) (by decide +kernel)
set_option maxRecDepth 20000 in
theorem gX1_empty_X5_empty : GoodIn wsX1_empty (wsV RX1 39 RX5 yX5_empty wsX5_empty) := goodIn_app (goodIn_of _ (by decide +kernel)) ggX1_empty_X5_empty
theorem dX1_empty_0 : decode cX1_empty 0 = .ok (.aload_n 0, 1) := by decide +kernel
theorem dX1_empty_1 : decode cX1_empty 1 = .ok (.iconst 0, 1) := by decide +kernel
theorem dX1_empty_2 : decode cX1_empty 2 = .ok (.putfield 29, 3) := by decide +kernel
theorem dX1_empty_5 : decode cX1_empty 5 = .ok (.aload_n 0, 1) := by decide +kernel
theorem dX1_empty_6 : decode cX1_empty 6 = .ok (.sipush 1000, 3) := by decide +kernel
theorem dX1_empty_9 : decode cX1_empty 9 = .ok (.putfield 33, 3) := by decide +kernel
theorem dX1_empty_12 : decode cX1_empty 12 = .ok (.aload_n 0, 1) := by decide +kernel
theorem dX1_empty_13 : decode cX1_empty 13 = .ok (.iconst 0, 1) := by decide +kernel
theorem dX1_empty_14 : decode cX1_empty 14 = .ok (.putfield 36, 3) := by decide +kernel
theorem dX1_empty_17 : decode cX1_empty 17 = .ok (.aload_n 0, 1) := by decide +kernel
theorem dX1_empty_18 : decode cX1_empty 18 = .ok (.getfield 24, 3) := by decide +kernel
theorem dX1_empty_21 : decode cX1_empty 21 = .ok (.invokevirtual 39, 3) := by decide +kernel
theorem dX1_empty_24 : decode cX1_empty 24 = .ok (.return_, 1) := by decide +kernel
set_option maxRecDepth 20000 in
theorem ggX1_copyFrom_X4_copyFrom : GoodIn wsX1_copyFrom wsX4_copyFrom := goodIn_r _ [10, 11, 12, 13, 14, 15, 16, 17, 18, 19, 20, 21, 22, 23, 24, 25, 46, 47, 48, 49, 50, 51, 52, 53, 54, 55, 56, 57, 58, 59, 60] (by decide +kernel) (by decide +kernel)
set_option maxRecDepth 20000 in
theorem gX1_copyFrom_X4_copyFrom : GoodIn wsX1_copyFrom (wsV RX1 42 RX4 yX4_copyFrom wsX4_copyFrom) := goodIn_app (goodIn_of _ (by decide +kernel)) ggX1_copyFrom_X4_copyFrom
set_option maxRecDepth 20000 in
theorem ggX1_copyFrom_X5_copyFrom : GoodIn wsX1_copyFrom wsX5_copyFrom := goodIn_r _ [30, 31, 32, 33, 34, 35, 36, 37, 38, 39, 61, 62, 63, 64, 65] (by decide +kernel) (by decide +kernel)
set_option maxRecDepth 20000 in
theorem gX1_copyFrom_X5_copyFrom : GoodIn wsX1_copyFrom (wsV RX1 46 RX5 yX5_copyFrom wsX5_copyFrom) := goodIn_app (goodIn_of _ (by decide +kernel)) ggX1_copyFrom_X5_copyFrom
theorem dX1_copyFrom_0 : decode cX1_copyFrom 0 = .ok (.iconst 0, 1) := by decide +kernel
theorem dX1_copyFrom_1 : decode cX1_copyFrom 1 = .ok (.istore_n 2, 1) := by decide +kernel
theorem dX1_copyFrom_2 : decode cX1_copyFrom 2 = .ok (.iload_n 2, 1) := by decide +kernel
theorem dX1_copyFrom_3 : decode cX1_copyFrom 3 = .ok (.iconst 4, 1) := by decide +kernel
theorem dX1_copyFrom_4 : decode cX1_copyFrom 4 = .ok (.if_icmp .ge 24, 3) := by decide +kernel
theorem dX1_copyFrom_7 : decode cX1_copyFrom 7 = .ok (.aload_n 0, 1) := by decide +kernel
theorem dX1_copyFrom_8 : decode cX1_copyFrom 8 = .ok (.getfield 11, 3) := by decide +kernel
theorem dX1_copyFrom_11 : decode cX1_copyFrom 11 = .ok (.iload_n 2, 1) := by decide +kernel
theorem dX1_copyFrom_12 : decode cX1_copyFrom 12 = .ok (.aaload, 1) := by decide +kernel
theorem dX1_copyFrom_13 : decode cX1_copyFrom 13 = .ok (.aload_n 1, 1) := by decide +kernel
theorem dX1_copyFrom_14 : decode cX1_copyFrom 14 = .ok (.getfield 11, 3) := by decide +kernel
theorem dX1_copyFrom_17 : decode cX1_copyFrom 17 = .ok (.iload_n 2, 1) := by decide +kernel
theorem dX1_copyFrom_18 : decode cX1_copyFrom 18 = .ok (.aaload, 1) := by decide +kernel
theorem dX1_copyFrom_19 : decode cX1_copyFrom 19 = .ok (.invokevirtual 42, 3) := by decide +kernel
theorem dX1_copyFrom_22 : decode cX1_copyFrom 22 = .ok (.iinc 2 1, 3) := by decide +kernel
theorem dX1_copyFrom_25 : decode cX1_copyFrom 25 = .ok (.goto (-23), 3) := by decide +kernel
theorem dX1_copyFrom_28 : decode cX1_copyFrom 28 = .ok (.aload_n 0, 1) := by decide +kernel
theorem dX1_copyFrom_29 : decode cX1_copyFrom 29 = .ok (.getfield 24, 3) := by decide +kernel
theorem dX1_copyFrom_32 : decode cX1_copyFrom 32 = .ok (.aload_n 1, 1) := by decide +kernel
theorem dX1_copyFrom_33 : decode cX1_copyFrom 33 = .ok (.getfield 24, 3) := by decide +kernel
theorem dX1_copyFrom_36 : decode cX1_copyFrom 36 = .ok (.invokevirtual 46, 3) := by decide +kernel
theorem dX1_copyFrom_39 : decode cX1_copyFrom 39 = .ok (.aload_n 0, 1) := by decide +kernel
theorem dX1_copyFrom_40 : decode cX1_copyFrom 40 = .ok (.aload_n 1, 1) := by decide +kernel
theorem dX1_copyFrom_41 : decode cX1_copyFrom 41 = .ok (.getfield 29, 3) := by decide +kernel
theorem dX1_copyFrom_44 : decode cX1_copyFrom 44 = .ok (.putfield 29, 3) := by decide +kernel
theorem dX1_copyFrom_47 : decode cX1_copyFrom 47 = .ok (.aload_n 0, 1) := by decide +kernel
theorem dX1_copyFrom_48 : decode cX1_copyFrom 48 = .ok (.aload_n 1, 1) := by decide +kernel
theorem dX1_copyFrom_49 : decode cX1_copyFrom 49 = .ok (.getfield 33, 3) := by decide +kernel
theorem dX1_copyFrom_52 : decode cX1_copyFrom 52 = .ok (.putfield 33, 3) := by decide +kernel
theorem dX1_copyFrom_55 : decode cX1_copyFrom 55 = .ok (.aload_n 0, 1) := by decide +kernel
theorem dX1_copyFrom_56 : decode cX1_copyFrom 56 = .ok (.aload_n 1, 1) := by decide +kernel
theorem dX1_copyFrom_57 : decode cX1_copyFrom 57 = .ok (.getfield 36, 3) := by decide +kernel
theorem dX1_copyFrom_60 : decode cX1_copyFrom 60 = .ok (.putfield 36, 3) := by decide +kernel
theorem dX1_copyFrom_63 : decode cX1_copyFrom 63 = .ok (.return_, 1) := by decide +kernel
theorem dX1_has_0 : decode cX1_has 0 = .ok (.iload_n 1, 1) := by decide +kernel
theorem dX1_has_1 : decode cX1_has 1 = .ok (.ifCond .lt 15, 3) := by decide +kernel
theorem dX1_has_4 : decode cX1_has 4 = .ok (.iload_n 1, 1) := by decide +kernel
theorem dX1_has_5 : decode cX1_has 5 = .ok (.aload_n 0, 1) := by decide +kernel
theorem dX1_has_6 : decode cX1_has 6 = .ok (.getfield 29, 3) := by decide +kernel
theorem dX1_has_9 : decode cX1_has 9 = .ok (.if_icmp .ge 7, 3) := by decide +kernel
theorem dX1_has_12 : decode cX1_has 12 = .ok (.iconst 1, 1) := by decide +kernel
theorem dX1_has_13 : decode cX1_has 13 = .ok (.goto 4, 3) := by decide +kernel
theorem dX1_has_16 : decode cX1_has 16 = .ok (.iconst 0, 1) := by decide +kernel
theorem dX1_has_17 : decode cX1_has 17 = .ok (.ireturn, 1) := by decide +kernel
set_option maxRecDepth 20000 in
theorem ggX1_addStage_X4_layDown : GoodIn wsX1_addStage wsX4_layDown := goodIn_r _ [7, 8, 9, 10, 11, 12, 13, 14, 15, 16, 17, 18, 19, 26, 27, 28, 29, 30, 31, 32, 33, 34, 35, 36, 37, 38, 39, 40] (by decide +kernel) (by decide +kernel)
set_option maxRecDepth 20000 in
theorem gX1_addStage_X4_layDown : GoodIn wsX1_addStage (wsV RX1 49 RX4 yX4_layDown wsX4_layDown) := goodIn_app (goodIn_of _ (by decide +kernel)) ggX1_addStage_X4_layDown
theorem dX1_addStage_0 : decode cX1_addStage 0 = .ok (.aload_n 0, 1) := by decide +kernel
theorem dX1_addStage_1 : decode cX1_addStage 1 = .ok (.getfield 29, 3) := by decide +kernel
theorem dX1_addStage_4 : decode cX1_addStage 4 = .ok (.iconst 4, 1) := by decide +kernel
theorem dX1_addStage_5 : decode cX1_addStage 5 = .ok (.if_icmp .lt 5, 3) := by decide +kernel
theorem dX1_addStage_8 : decode cX1_addStage 8 = .ok (.iconst 0, 1) := by decide +kernel
theorem dX1_addStage_9 : decode cX1_addStage 9 = .ok (.ireturn, 1) := by decide +kernel
theorem dX1_addStage_10 : decode cX1_addStage 10 = .ok (.aload_n 0, 1) := by decide +kernel
theorem dX1_addStage_11 : decode cX1_addStage 11 = .ok (.getfield 11, 3) := by decide +kernel
theorem dX1_addStage_14 : decode cX1_addStage 14 = .ok (.aload_n 0, 1) := by decide +kernel
theorem dX1_addStage_15 : decode cX1_addStage 15 = .ok (.getfield 29, 3) := by decide +kernel
theorem dX1_addStage_18 : decode cX1_addStage 18 = .ok (.aaload, 1) := by decide +kernel
theorem dX1_addStage_19 : decode cX1_addStage 19 = .ok (.aload_n 1, 1) := by decide +kernel
theorem dX1_addStage_20 : decode cX1_addStage 20 = .ok (.invokevirtual 49, 3) := by decide +kernel
theorem dX1_addStage_23 : decode cX1_addStage 23 = .ok (.aload_n 0, 1) := by decide +kernel
theorem dX1_addStage_24 : decode cX1_addStage 24 = .ok (.dup, 1) := by decide +kernel
theorem dX1_addStage_25 : decode cX1_addStage 25 = .ok (.getfield 29, 3) := by decide +kernel
theorem dX1_addStage_28 : decode cX1_addStage 28 = .ok (.iconst 1, 1) := by decide +kernel
theorem dX1_addStage_29 : decode cX1_addStage 29 = .ok (.iadd, 1) := by decide +kernel
theorem dX1_addStage_30 : decode cX1_addStage 30 = .ok (.putfield 29, 3) := by decide +kernel
theorem dX1_addStage_33 : decode cX1_addStage 33 = .ok (.iconst 1, 1) := by decide +kernel
theorem dX1_addStage_34 : decode cX1_addStage 34 = .ok (.ireturn, 1) := by decide +kernel
set_option maxRecDepth 20000 in
theorem ggX1_reckon_X4_turned : GoodIn wsX1_reckon wsX4_turned := goodIn_r _ [12, 13, 14, 32, 33, 34, 35, 36, 37, 38, 39, 40, 41, 42, 43, 44, 45, 46] (by decide +kernel) (by decide +kernel)
set_option maxRecDepth 20000 in
theorem gX1_reckon_X4_turned : GoodIn wsX1_reckon (wsV RX1 62 RX4 yX4_turned wsX4_turned) := goodIn_app (goodIn_of _ (by decide +kernel)) ggX1_reckon_X4_turned
set_option maxRecDepth 20000 in
theorem ggX1_reckon_X7_outOf : GoodIn wsX1_reckon wsX7_outOf := goodIn_r _ [17] (by decide +kernel) (by decide +kernel)
set_option maxRecDepth 20000 in
theorem gX1_reckon_X7_outOf_n66 : GoodIn wsX1_reckon (wsX7_outOf) := ggX1_reckon_X7_outOf
set_option maxRecDepth 20000 in
theorem ggX1_reckon_X1_lostBehind : GoodIn wsX1_reckon wsX1_lostBehind := goodIn_r _ [22, 1, 2, 23, 4, 24, 16, 25, 26, 27, 28, 29, 30, 31, 32, 33, 34, 35, 36, 37, 38, 39, 40, 41, 42, 43, 44, 45, 46] (by decide +kernel) (by decide +kernel)
set_option maxRecDepth 20000 in
theorem gX1_reckon_X1_lostBehind : GoodIn wsX1_reckon (wsV RX1 73 RX1 yX1_lostBehind wsX1_lostBehind) := goodIn_app (goodIn_of _ (by decide +kernel)) ggX1_reckon_X1_lostBehind
theorem dX1_reckon_0 : decode cX1_reckon 0 = .ok (.iconst 0, 1) := by decide +kernel
theorem dX1_reckon_1 : decode cX1_reckon 1 = .ok (.istore_n 1, 1) := by decide +kernel
theorem dX1_reckon_2 : decode cX1_reckon 2 = .ok (.aload_n 0, 1) := by decide +kernel
theorem dX1_reckon_3 : decode cX1_reckon 3 = .ok (.getfield 29, 3) := by decide +kernel
theorem dX1_reckon_6 : decode cX1_reckon 6 = .ok (.iconst 1, 1) := by decide +kernel
theorem dX1_reckon_7 : decode cX1_reckon 7 = .ok (.isub, 1) := by decide +kernel
theorem dX1_reckon_8 : decode cX1_reckon 8 = .ok (.istore_n 2, 1) := by decide +kernel
theorem dX1_reckon_9 : decode cX1_reckon 9 = .ok (.iload_n 2, 1) := by decide +kernel
theorem dX1_reckon_10 : decode cX1_reckon 10 = .ok (.ifCond .lt 31, 3) := by decide +kernel
theorem dX1_reckon_13 : decode cX1_reckon 13 = .ok (.iload_n 1, 1) := by decide +kernel
theorem dX1_reckon_14 : decode cX1_reckon 14 = .ok (.aload_n 0, 1) := by decide +kernel
theorem dX1_reckon_15 : decode cX1_reckon 15 = .ok (.getfield 11, 3) := by decide +kernel
theorem dX1_reckon_18 : decode cX1_reckon 18 = .ok (.iload_n 2, 1) := by decide +kernel
theorem dX1_reckon_19 : decode cX1_reckon 19 = .ok (.aaload, 1) := by decide +kernel
theorem dX1_reckon_20 : decode cX1_reckon 20 = .ok (.getfield 53, 3) := by decide +kernel
theorem dX1_reckon_23 : decode cX1_reckon 23 = .ok (.iadd, 1) := by decide +kernel
theorem dX1_reckon_24 : decode cX1_reckon 24 = .ok (.istore_n 1, 1) := by decide +kernel
theorem dX1_reckon_25 : decode cX1_reckon 25 = .ok (.aload_n 0, 1) := by decide +kernel
theorem dX1_reckon_26 : decode cX1_reckon 26 = .ok (.getfield 11, 3) := by decide +kernel
theorem dX1_reckon_29 : decode cX1_reckon 29 = .ok (.iload_n 2, 1) := by decide +kernel
theorem dX1_reckon_30 : decode cX1_reckon 30 = .ok (.aaload, 1) := by decide +kernel
theorem dX1_reckon_31 : decode cX1_reckon 31 = .ok (.iload_n 1, 1) := by decide +kernel
theorem dX1_reckon_32 : decode cX1_reckon 32 = .ok (.putfield 56, 3) := by decide +kernel
theorem dX1_reckon_35 : decode cX1_reckon 35 = .ok (.iinc 2 (-1), 3) := by decide +kernel
theorem dX1_reckon_38 : decode cX1_reckon 38 = .ok (.goto (-29), 3) := by decide +kernel
theorem dX1_reckon_41 : decode cX1_reckon 41 = .ok (.aload_n 0, 1) := by decide +kernel
theorem dX1_reckon_42 : decode cX1_reckon 42 = .ok (.getfield 33, 3) := by decide +kernel
theorem dX1_reckon_45 : decode cX1_reckon 45 = .ok (.istore_n 2, 1) := by decide +kernel
theorem dX1_reckon_46 : decode cX1_reckon 46 = .ok (.iconst 0, 1) := by decide +kernel
theorem dX1_reckon_47 : decode cX1_reckon 47 = .ok (.istore_n 3, 1) := by decide +kernel
theorem dX1_reckon_48 : decode cX1_reckon 48 = .ok (.iload_n 3, 1) := by decide +kernel
theorem dX1_reckon_49 : decode cX1_reckon 49 = .ok (.aload_n 0, 1) := by decide +kernel
theorem dX1_reckon_50 : decode cX1_reckon 50 = .ok (.getfield 29, 3) := by decide +kernel
theorem dX1_reckon_53 : decode cX1_reckon 53 = .ok (.if_icmp .ge 49, 3) := by decide +kernel
theorem dX1_reckon_56 : decode cX1_reckon 56 = .ok (.aload_n 0, 1) := by decide +kernel
theorem dX1_reckon_57 : decode cX1_reckon 57 = .ok (.getfield 11, 3) := by decide +kernel
theorem dX1_reckon_60 : decode cX1_reckon 60 = .ok (.iload_n 3, 1) := by decide +kernel
theorem dX1_reckon_61 : decode cX1_reckon 61 = .ok (.aaload, 1) := by decide +kernel
theorem dX1_reckon_62 : decode cX1_reckon 62 = .ok (.astore 4, 2) := by decide +kernel
theorem dX1_reckon_64 : decode cX1_reckon 64 = .ok (.aload 4, 2) := by decide +kernel
theorem dX1_reckon_66 : decode cX1_reckon 66 = .ok (.iload_n 2, 1) := by decide +kernel
theorem dX1_reckon_67 : decode cX1_reckon 67 = .ok (.putfield 59, 3) := by decide +kernel
theorem dX1_reckon_70 : decode cX1_reckon 70 = .ok (.aload 4, 2) := by decide +kernel
theorem dX1_reckon_72 : decode cX1_reckon 72 = .ok (.iload_n 2, 1) := by decide +kernel
theorem dX1_reckon_73 : decode cX1_reckon 73 = .ok (.aload 4, 2) := by decide +kernel
theorem dX1_reckon_75 : decode cX1_reckon 75 = .ok (.invokevirtual 62, 3) := by decide +kernel
theorem dX1_reckon_78 : decode cX1_reckon 78 = .ok (.invokestatic 66, 3) := by decide +kernel
theorem dX1_reckon_81 : decode cX1_reckon 81 = .ok (.putfield 70, 3) := by decide +kernel
theorem dX1_reckon_84 : decode cX1_reckon 84 = .ok (.aload 4, 2) := by decide +kernel
theorem dX1_reckon_86 : decode cX1_reckon 86 = .ok (.getfield 70, 3) := by decide +kernel
theorem dX1_reckon_89 : decode cX1_reckon 89 = .ok (.aload_n 0, 1) := by decide +kernel
theorem dX1_reckon_90 : decode cX1_reckon 90 = .ok (.iload_n 3, 1) := by decide +kernel
theorem dX1_reckon_91 : decode cX1_reckon 91 = .ok (.invokevirtual 73, 3) := by decide +kernel
theorem dX1_reckon_94 : decode cX1_reckon 94 = .ok (.isub, 1) := by decide +kernel
theorem dX1_reckon_95 : decode cX1_reckon 95 = .ok (.istore_n 2, 1) := by decide +kernel
theorem dX1_reckon_96 : decode cX1_reckon 96 = .ok (.iinc 3 1, 3) := by decide +kernel
theorem dX1_reckon_99 : decode cX1_reckon 99 = .ok (.goto (-51), 3) := by decide +kernel
theorem dX1_reckon_102 : decode cX1_reckon 102 = .ok (.return_, 1) := by decide +kernel
set_option maxRecDepth 20000 in
theorem ggX1_lostBehind_X7_lostBetween : GoodIn wsX1_lostBehind wsX7_lostBetween := goodIn_r _ [7] (by decide +kernel) (by decide +kernel)
set_option maxRecDepth 20000 in
theorem gX1_lostBehind_X7_lostBetween_n80 : GoodIn wsX1_lostBehind (wsX7_lostBetween) := ggX1_lostBehind_X7_lostBetween
theorem dX1_lostBehind_0 : decode cX1_lostBehind 0 = .ok (.iload_n 1, 1) := by decide +kernel
theorem dX1_lostBehind_1 : decode cX1_lostBehind 1 = .ok (.iconst 1, 1) := by decide +kernel
theorem dX1_lostBehind_2 : decode cX1_lostBehind 2 = .ok (.iadd, 1) := by decide +kernel
theorem dX1_lostBehind_3 : decode cX1_lostBehind 3 = .ok (.aload_n 0, 1) := by decide +kernel
theorem dX1_lostBehind_4 : decode cX1_lostBehind 4 = .ok (.getfield 29, 3) := by decide +kernel
theorem dX1_lostBehind_7 : decode cX1_lostBehind 7 = .ok (.if_icmp .ge 29, 3) := by decide +kernel
theorem dX1_lostBehind_10 : decode cX1_lostBehind 10 = .ok (.aload_n 0, 1) := by decide +kernel
theorem dX1_lostBehind_11 : decode cX1_lostBehind 11 = .ok (.getfield 11, 3) := by decide +kernel
theorem dX1_lostBehind_14 : decode cX1_lostBehind 14 = .ok (.iload_n 1, 1) := by decide +kernel
theorem dX1_lostBehind_15 : decode cX1_lostBehind 15 = .ok (.aaload, 1) := by decide +kernel
theorem dX1_lostBehind_16 : decode cX1_lostBehind 16 = .ok (.getfield 77, 3) := by decide +kernel
theorem dX1_lostBehind_19 : decode cX1_lostBehind 19 = .ok (.aload_n 0, 1) := by decide +kernel
theorem dX1_lostBehind_20 : decode cX1_lostBehind 20 = .ok (.getfield 11, 3) := by decide +kernel
theorem dX1_lostBehind_23 : decode cX1_lostBehind 23 = .ok (.iload_n 1, 1) := by decide +kernel
theorem dX1_lostBehind_24 : decode cX1_lostBehind 24 = .ok (.iconst 1, 1) := by decide +kernel
theorem dX1_lostBehind_25 : decode cX1_lostBehind 25 = .ok (.iadd, 1) := by decide +kernel
theorem dX1_lostBehind_26 : decode cX1_lostBehind 26 = .ok (.aaload, 1) := by decide +kernel
theorem dX1_lostBehind_27 : decode cX1_lostBehind 27 = .ok (.getfield 56, 3) := by decide +kernel
theorem dX1_lostBehind_30 : decode cX1_lostBehind 30 = .ok (.invokestatic 80, 3) := by decide +kernel
theorem dX1_lostBehind_33 : decode cX1_lostBehind 33 = .ok (.goto 4, 3) := by decide +kernel
theorem dX1_lostBehind_36 : decode cX1_lostBehind 36 = .ok (.iconst 0, 1) := by decide +kernel
theorem dX1_lostBehind_37 : decode cX1_lostBehind 37 = .ok (.ireturn, 1) := by decide +kernel
set_option maxRecDepth 20000 in
theorem ggX1_runTick_X4_countOn : GoodIn wsX1_runTick wsX4_countOn := goodIn_r _ [11, 12, 13, 14, 15, 16, 10, 17, 18, 19, 20, 21, 22, 23, 24, 25, 26, 91, 92, 93, 94, 95, 96, 97, 98, 99, 100, 101, 102, 103, 104, 105] (by decide +kernel) (by decide +kernel)
set_option maxRecDepth 20000 in
theorem gX1_runTick_X4_countOn : GoodIn wsX1_runTick (wsV RX1 83 RX4 yX4_countOn wsX4_countOn) := goodIn_app (goodIn_of _ (by decide +kernel)) ggX1_runTick_X4_countOn
set_option maxRecDepth 20000 in
theorem ggX1_runTick_X1_passCallsOn : GoodIn wsX1_runTick wsX1_passCallsOn := goodIn_r _ [31, 1, 3, 2, 32, 33, 34, 10, 35, 36, 37, 14, 15, 16, 17, 18, 19, 20, 21, 22, 23, 24, 25, 26, 38, 39, 40, 30, 41, 42, 85, 86, 87, 88, 89, 90, 91, 92, 93, 94, 95, 96, 97, 98, 99, 100, 101, 102, 103, 104, 105] (by decide +kernel) (by decide +kernel)
set_option maxRecDepth 20000 in
theorem gX1_runTick_X1_passCallsOn : GoodIn wsX1_runTick (wsV RX1 92 RX1 yX1_passCallsOn wsX1_passCallsOn) := goodIn_app (goodIn_of _ (by decide +kernel)) ggX1_runTick_X1_passCallsOn
set_option maxRecDepth 20000 in
theorem ggX1_runTick_X1_heedCall : GoodIn wsX1_runTick wsX1_heedCall := goodIn_r _ [46, 2, 47, 48, 6, 49, 50, 4, 51, 32, 33, 34, 10, 35, 36, 37, 14, 15, 16, 17, 18, 19, 20, 21, 22, 23, 24, 25, 26, 42, 52, 53, 54, 55, 56, 57, 58, 59, 60, 85, 86, 87, 88, 89, 90, 91, 92, 93, 94, 95, 96, 97, 98, 99, 100, 101, 102, 103, 104, 105, 106, 107, 108, 109, 110] (by decide +kernel) (by decide +kernel)
set_option maxRecDepth 20000 in
theorem gX1_runTick_X1_heedCall : GoodIn wsX1_runTick (wsV RX1 95 RX1 yX1_heedCall wsX1_heedCall) := goodIn_app (goodIn_of _ (by decide +kernel)) ggX1_runTick_X1_heedCall
set_option maxRecDepth 20000 in
theorem ggX1_runTick_X1_reckon : GoodIn wsX1_runTick wsX1_reckon := goodIn_r _ [64, 1, 2, 65, 66, 67, 68, 69, 70, 71, 72, 10, 73, 37, 74, 75, 76, 77, 78, 79, 80, 30, 81, 82, 83, 84, 85, 86, 87, 88, 89, 90, 91, 92, 93, 94, 95, 96, 97, 98, 99, 100, 101, 102, 103, 104, 105] (by decide +kernel) (by decide +kernel)
set_option maxRecDepth 20000 in
theorem gX1_runTick_X1_reckon : GoodIn wsX1_runTick (wsV RX1 99 RX1 yX1_reckon wsX1_reckon) := goodIn_app (goodIn_of _ (by decide +kernel)) ggX1_runTick_X1_reckon
theorem dX1_runTick_0 : decode cX1_runTick 0 = .ok (.iconst 0, 1) := by decide +kernel
theorem dX1_runTick_1 : decode cX1_runTick 1 = .ok (.istore_n 1, 1) := by decide +kernel
theorem dX1_runTick_2 : decode cX1_runTick 2 = .ok (.iload_n 1, 1) := by decide +kernel
theorem dX1_runTick_3 : decode cX1_runTick 3 = .ok (.aload_n 0, 1) := by decide +kernel
theorem dX1_runTick_4 : decode cX1_runTick 4 = .ok (.getfield 29, 3) := by decide +kernel
theorem dX1_runTick_7 : decode cX1_runTick 7 = .ok (.if_icmp .ge 50, 3) := by decide +kernel
theorem dX1_runTick_10 : decode cX1_runTick 10 = .ok (.aload_n 0, 1) := by decide +kernel
theorem dX1_runTick_11 : decode cX1_runTick 11 = .ok (.getfield 11, 3) := by decide +kernel
theorem dX1_runTick_14 : decode cX1_runTick 14 = .ok (.iload_n 1, 1) := by decide +kernel
theorem dX1_runTick_15 : decode cX1_runTick 15 = .ok (.aaload, 1) := by decide +kernel
theorem dX1_runTick_16 : decode cX1_runTick 16 = .ok (.invokevirtual 83, 3) := by decide +kernel
theorem dX1_runTick_19 : decode cX1_runTick 19 = .ok (.aload_n 0, 1) := by decide +kernel
theorem dX1_runTick_20 : decode cX1_runTick 20 = .ok (.getfield 17, 3) := by decide +kernel
theorem dX1_runTick_23 : decode cX1_runTick 23 = .ok (.iload_n 1, 1) := by decide +kernel
theorem dX1_runTick_24 : decode cX1_runTick 24 = .ok (.aload_n 0, 1) := by decide +kernel
theorem dX1_runTick_25 : decode cX1_runTick 25 = .ok (.getfield 11, 3) := by decide +kernel
theorem dX1_runTick_28 : decode cX1_runTick 28 = .ok (.iload_n 1, 1) := by decide +kernel
theorem dX1_runTick_29 : decode cX1_runTick 29 = .ok (.aaload, 1) := by decide +kernel
theorem dX1_runTick_30 : decode cX1_runTick 30 = .ok (.getfield 86, 3) := by decide +kernel
theorem dX1_runTick_33 : decode cX1_runTick 33 = .ok (.aload_n 0, 1) := by decide +kernel
theorem dX1_runTick_34 : decode cX1_runTick 34 = .ok (.getfield 11, 3) := by decide +kernel
theorem dX1_runTick_37 : decode cX1_runTick 37 = .ok (.iload_n 1, 1) := by decide +kernel
theorem dX1_runTick_38 : decode cX1_runTick 38 = .ok (.aaload, 1) := by decide +kernel
theorem dX1_runTick_39 : decode cX1_runTick 39 = .ok (.getfield 89, 3) := by decide +kernel
theorem dX1_runTick_42 : decode cX1_runTick 42 = .ok (.if_icmp .lt 7, 3) := by decide +kernel
theorem dX1_runTick_45 : decode cX1_runTick 45 = .ok (.iconst 1, 1) := by decide +kernel
theorem dX1_runTick_46 : decode cX1_runTick 46 = .ok (.goto 4, 3) := by decide +kernel
theorem dX1_runTick_49 : decode cX1_runTick 49 = .ok (.iconst 0, 1) := by decide +kernel
theorem dX1_runTick_50 : decode cX1_runTick 50 = .ok (.bastore, 1) := by decide +kernel
theorem dX1_runTick_51 : decode cX1_runTick 51 = .ok (.iinc 1 1, 3) := by decide +kernel
theorem dX1_runTick_54 : decode cX1_runTick 54 = .ok (.goto (-52), 3) := by decide +kernel
theorem dX1_runTick_57 : decode cX1_runTick 57 = .ok (.aload_n 0, 1) := by decide +kernel
theorem dX1_runTick_58 : decode cX1_runTick 58 = .ok (.invokevirtual 92, 3) := by decide +kernel
theorem dX1_runTick_61 : decode cX1_runTick 61 = .ok (.iconst 0, 1) := by decide +kernel
theorem dX1_runTick_62 : decode cX1_runTick 62 = .ok (.istore_n 1, 1) := by decide +kernel
theorem dX1_runTick_63 : decode cX1_runTick 63 = .ok (.iload_n 1, 1) := by decide +kernel
theorem dX1_runTick_64 : decode cX1_runTick 64 = .ok (.aload_n 0, 1) := by decide +kernel
theorem dX1_runTick_65 : decode cX1_runTick 65 = .ok (.getfield 29, 3) := by decide +kernel
theorem dX1_runTick_68 : decode cX1_runTick 68 = .ok (.if_icmp .ge 23, 3) := by decide +kernel
theorem dX1_runTick_71 : decode cX1_runTick 71 = .ok (.aload_n 0, 1) := by decide +kernel
theorem dX1_runTick_72 : decode cX1_runTick 72 = .ok (.getfield 17, 3) := by decide +kernel
theorem dX1_runTick_75 : decode cX1_runTick 75 = .ok (.iload_n 1, 1) := by decide +kernel
theorem dX1_runTick_76 : decode cX1_runTick 76 = .ok (.baload, 1) := by decide +kernel
theorem dX1_runTick_77 : decode cX1_runTick 77 = .ok (.ifCond .eq 8, 3) := by decide +kernel
theorem dX1_runTick_80 : decode cX1_runTick 80 = .ok (.aload_n 0, 1) := by decide +kernel
theorem dX1_runTick_81 : decode cX1_runTick 81 = .ok (.iload_n 1, 1) := by decide +kernel
theorem dX1_runTick_82 : decode cX1_runTick 82 = .ok (.invokevirtual 95, 3) := by decide +kernel
theorem dX1_runTick_85 : decode cX1_runTick 85 = .ok (.iinc 1 1, 3) := by decide +kernel
theorem dX1_runTick_88 : decode cX1_runTick 88 = .ok (.goto (-25), 3) := by decide +kernel
theorem dX1_runTick_91 : decode cX1_runTick 91 = .ok (.aload_n 0, 1) := by decide +kernel
theorem dX1_runTick_92 : decode cX1_runTick 92 = .ok (.dup, 1) := by decide +kernel
theorem dX1_runTick_93 : decode cX1_runTick 93 = .ok (.getfield 36, 3) := by decide +kernel
theorem dX1_runTick_96 : decode cX1_runTick 96 = .ok (.iconst 1, 1) := by decide +kernel
theorem dX1_runTick_97 : decode cX1_runTick 97 = .ok (.iadd, 1) := by decide +kernel
theorem dX1_runTick_98 : decode cX1_runTick 98 = .ok (.putfield 36, 3) := by decide +kernel
theorem dX1_runTick_101 : decode cX1_runTick 101 = .ok (.aload_n 0, 1) := by decide +kernel
theorem dX1_runTick_102 : decode cX1_runTick 102 = .ok (.invokevirtual 99, 3) := by decide +kernel
theorem dX1_runTick_105 : decode cX1_runTick 105 = .ok (.return_, 1) := by decide +kernel
set_option maxRecDepth 20000 in
theorem ggX1_passCallsOn_X4_canAsItWants : GoodIn wsX1_passCallsOn wsX4_canAsItWants := goodIn_r _ [8, 9, 10, 11, 12, 13, 7, 14, 15, 16, 17, 18, 19, 20, 21, 22, 23, 36, 37, 38, 39, 40, 41, 42, 43, 44, 45, 46, 47, 48, 49, 50] (by decide +kernel) (by decide +kernel)
set_option maxRecDepth 20000 in
theorem gX1_passCallsOn_X4_canAsItWants : GoodIn wsX1_passCallsOn (wsV RX1 102 RX4 yX4_canAsItWants wsX4_canAsItWants) := goodIn_app (goodIn_of _ (by decide +kernel)) ggX1_passCallsOn_X4_canAsItWants
set_option maxRecDepth 20000 in
theorem ggX1_passCallsOn_X1_callNextBehind : GoodIn wsX1_passCallsOn wsX1_callNextBehind := goodIn_r _ [28, 1, 3, 2, 29, 12, 13, 7, 14, 15, 16, 17, 18, 19, 20, 21, 22, 23, 30, 31, 32, 33, 34, 35, 36, 37, 38, 39, 40, 41, 42, 43, 44, 45, 46, 47, 48, 49, 50] (by decide +kernel) (by decide +kernel)
set_option maxRecDepth 20000 in
theorem gX1_passCallsOn_X1_callNextBehind : GoodIn wsX1_passCallsOn (wsV RX1 106 RX1 yX1_callNextBehind wsX1_callNextBehind) := goodIn_app (goodIn_of _ (by decide +kernel)) ggX1_passCallsOn_X1_callNextBehind
theorem dX1_passCallsOn_0 : decode cX1_passCallsOn 0 = .ok (.iconst 0, 1) := by decide +kernel
theorem dX1_passCallsOn_1 : decode cX1_passCallsOn 1 = .ok (.istore_n 1, 1) := by decide +kernel
theorem dX1_passCallsOn_2 : decode cX1_passCallsOn 2 = .ok (.iload_n 1, 1) := by decide +kernel
theorem dX1_passCallsOn_3 : decode cX1_passCallsOn 3 = .ok (.aload_n 0, 1) := by decide +kernel
theorem dX1_passCallsOn_4 : decode cX1_passCallsOn 4 = .ok (.getfield 29, 3) := by decide +kernel
theorem dX1_passCallsOn_7 : decode cX1_passCallsOn 7 = .ok (.if_icmp .ge 35, 3) := by decide +kernel
theorem dX1_passCallsOn_10 : decode cX1_passCallsOn 10 = .ok (.aload_n 0, 1) := by decide +kernel
theorem dX1_passCallsOn_11 : decode cX1_passCallsOn 11 = .ok (.getfield 17, 3) := by decide +kernel
theorem dX1_passCallsOn_14 : decode cX1_passCallsOn 14 = .ok (.iload_n 1, 1) := by decide +kernel
theorem dX1_passCallsOn_15 : decode cX1_passCallsOn 15 = .ok (.baload, 1) := by decide +kernel
theorem dX1_passCallsOn_16 : decode cX1_passCallsOn 16 = .ok (.ifCond .eq 20, 3) := by decide +kernel
theorem dX1_passCallsOn_19 : decode cX1_passCallsOn 19 = .ok (.aload_n 0, 1) := by decide +kernel
theorem dX1_passCallsOn_20 : decode cX1_passCallsOn 20 = .ok (.getfield 11, 3) := by decide +kernel
theorem dX1_passCallsOn_23 : decode cX1_passCallsOn 23 = .ok (.iload_n 1, 1) := by decide +kernel
theorem dX1_passCallsOn_24 : decode cX1_passCallsOn 24 = .ok (.aaload, 1) := by decide +kernel
theorem dX1_passCallsOn_25 : decode cX1_passCallsOn 25 = .ok (.invokevirtual 102, 3) := by decide +kernel
theorem dX1_passCallsOn_28 : decode cX1_passCallsOn 28 = .ok (.ifCond .ne 8, 3) := by decide +kernel
theorem dX1_passCallsOn_31 : decode cX1_passCallsOn 31 = .ok (.aload_n 0, 1) := by decide +kernel
theorem dX1_passCallsOn_32 : decode cX1_passCallsOn 32 = .ok (.iload_n 1, 1) := by decide +kernel
theorem dX1_passCallsOn_33 : decode cX1_passCallsOn 33 = .ok (.invokevirtual 106, 3) := by decide +kernel
theorem dX1_passCallsOn_36 : decode cX1_passCallsOn 36 = .ok (.iinc 1 1, 3) := by decide +kernel
theorem dX1_passCallsOn_39 : decode cX1_passCallsOn 39 = .ok (.goto (-37), 3) := by decide +kernel
theorem dX1_passCallsOn_42 : decode cX1_passCallsOn 42 = .ok (.return_, 1) := by decide +kernel
set_option maxRecDepth 20000 in
theorem ggX1_callNextBehind_X4_wants : GoodIn wsX1_callNextBehind wsX4_wants := goodIn_r _ [8, 9, 10, 11, 12, 13, 7, 14, 15, 16, 17, 24, 25, 26, 27, 28, 29, 30, 31, 32, 33, 34, 35, 36, 37, 38] (by decide +kernel) (by decide +kernel)
set_option maxRecDepth 20000 in
theorem gX1_callNextBehind_X4_wants : GoodIn wsX1_callNextBehind (wsV RX1 109 RX4 yX4_wants wsX4_wants) := goodIn_app (goodIn_of _ (by decide +kernel)) ggX1_callNextBehind_X4_wants
theorem dX1_callNextBehind_0 : decode cX1_callNextBehind 0 = .ok (.iload_n 1, 1) := by decide +kernel
theorem dX1_callNextBehind_1 : decode cX1_callNextBehind 1 = .ok (.iconst 1, 1) := by decide +kernel
theorem dX1_callNextBehind_2 : decode cX1_callNextBehind 2 = .ok (.iadd, 1) := by decide +kernel
theorem dX1_callNextBehind_3 : decode cX1_callNextBehind 3 = .ok (.istore_n 2, 1) := by decide +kernel
theorem dX1_callNextBehind_4 : decode cX1_callNextBehind 4 = .ok (.iload_n 2, 1) := by decide +kernel
theorem dX1_callNextBehind_5 : decode cX1_callNextBehind 5 = .ok (.aload_n 0, 1) := by decide +kernel
theorem dX1_callNextBehind_6 : decode cX1_callNextBehind 6 = .ok (.getfield 29, 3) := by decide +kernel
theorem dX1_callNextBehind_9 : decode cX1_callNextBehind 9 = .ok (.if_icmp .ge 29, 3) := by decide +kernel
theorem dX1_callNextBehind_12 : decode cX1_callNextBehind 12 = .ok (.aload_n 0, 1) := by decide +kernel
theorem dX1_callNextBehind_13 : decode cX1_callNextBehind 13 = .ok (.getfield 11, 3) := by decide +kernel
theorem dX1_callNextBehind_16 : decode cX1_callNextBehind 16 = .ok (.iload_n 2, 1) := by decide +kernel
theorem dX1_callNextBehind_17 : decode cX1_callNextBehind 17 = .ok (.aaload, 1) := by decide +kernel
theorem dX1_callNextBehind_18 : decode cX1_callNextBehind 18 = .ok (.invokevirtual 109, 3) := by decide +kernel
theorem dX1_callNextBehind_21 : decode cX1_callNextBehind 21 = .ok (.ifCond .eq 11, 3) := by decide +kernel
theorem dX1_callNextBehind_24 : decode cX1_callNextBehind 24 = .ok (.aload_n 0, 1) := by decide +kernel
theorem dX1_callNextBehind_25 : decode cX1_callNextBehind 25 = .ok (.getfield 17, 3) := by decide +kernel
theorem dX1_callNextBehind_28 : decode cX1_callNextBehind 28 = .ok (.iload_n 2, 1) := by decide +kernel
theorem dX1_callNextBehind_29 : decode cX1_callNextBehind 29 = .ok (.iconst 1, 1) := by decide +kernel
theorem dX1_callNextBehind_30 : decode cX1_callNextBehind 30 = .ok (.bastore, 1) := by decide +kernel
theorem dX1_callNextBehind_31 : decode cX1_callNextBehind 31 = .ok (.return_, 1) := by decide +kernel
theorem dX1_callNextBehind_32 : decode cX1_callNextBehind 32 = .ok (.iinc 2 1, 3) := by decide +kernel
theorem dX1_callNextBehind_35 : decode cX1_callNextBehind 35 = .ok (.goto (-31), 3) := by decide +kernel
theorem dX1_callNextBehind_38 : decode cX1_callNextBehind 38 = .ok (.return_, 1) := by decide +kernel
set_option maxRecDepth 20000 in
theorem ggX1_heedCall_X4_canAsItWants : GoodIn wsX1_heedCall wsX4_canAsItWants := goodIn_r _ [13, 14, 15, 16, 17, 18, 12, 19, 20, 21, 22, 23, 24, 25, 26, 27, 28, 45, 46, 47, 48, 49, 50, 51, 52, 53, 54, 55, 56, 57, 58, 59] (by decide +kernel) (by decide +kernel)
set_option maxRecDepth 20000 in
theorem gX1_heedCall_X4_canAsItWants : GoodIn wsX1_heedCall (wsV RX1 102 RX4 yX4_canAsItWants wsX4_canAsItWants) := goodIn_app (goodIn_of _ (by decide +kernel)) ggX1_heedCall_X4_canAsItWants
set_option maxRecDepth 20000 in
theorem ggX1_heedCall_X4_wants : GoodIn wsX1_heedCall wsX4_wants := goodIn_r _ [19, 20, 21, 22, 23, 24, 12, 25, 26, 27, 28, 45, 46, 47, 48, 49, 50, 51, 52, 53, 54, 55, 56, 57, 58, 59] (by decide +kernel) (by decide +kernel)
set_option maxRecDepth 20000 in
theorem gX1_heedCall_X4_wants : GoodIn wsX1_heedCall (wsV RX1 109 RX4 yX4_wants wsX4_wants) := goodIn_app (goodIn_of _ (by decide +kernel)) ggX1_heedCall_X4_wants
set_option maxRecDepth 20000 in
theorem ggX1_heedCall_X5_add : GoodIn wsX1_heedCall wsX5_add := goodIn_r _ [34, 35, 36, 37, 38, 60, 61, 62, 63, 64] (by decide +kernel) (by decide +kernel)
set_option maxRecDepth 20000 in
theorem gX1_heedCall_X5_add : GoodIn wsX1_heedCall (wsV RX1 115 RX5 yX5_add wsX5_add) := goodIn_app (goodIn_of _ (by decide +kernel)) ggX1_heedCall_X5_add
theorem dX1_heedCall_0 : decode cX1_heedCall 0 = .ok (.aload_n 0, 1) := by decide +kernel
theorem dX1_heedCall_1 : decode cX1_heedCall 1 = .ok (.getfield 11, 3) := by decide +kernel
theorem dX1_heedCall_4 : decode cX1_heedCall 4 = .ok (.iload_n 1, 1) := by decide +kernel
theorem dX1_heedCall_5 : decode cX1_heedCall 5 = .ok (.aaload, 1) := by decide +kernel
theorem dX1_heedCall_6 : decode cX1_heedCall 6 = .ok (.astore_n 2, 1) := by decide +kernel
theorem dX1_heedCall_7 : decode cX1_heedCall 7 = .ok (.aload_n 2, 1) := by decide +kernel
theorem dX1_heedCall_8 : decode cX1_heedCall 8 = .ok (.invokevirtual 102, 3) := by decide +kernel
theorem dX1_heedCall_11 : decode cX1_heedCall 11 = .ok (.ifCond .eq 73, 3) := by decide +kernel
theorem dX1_heedCall_14 : decode cX1_heedCall 14 = .ok (.aload_n 2, 1) := by decide +kernel
theorem dX1_heedCall_15 : decode cX1_heedCall 15 = .ok (.invokevirtual 109, 3) := by decide +kernel
theorem dX1_heedCall_18 : decode cX1_heedCall 18 = .ok (.istore_n 3, 1) := by decide +kernel
theorem dX1_heedCall_19 : decode cX1_heedCall 19 = .ok (.aload_n 2, 1) := by decide +kernel
theorem dX1_heedCall_20 : decode cX1_heedCall 20 = .ok (.dup, 1) := by decide +kernel
theorem dX1_heedCall_21 : decode cX1_heedCall 21 = .ok (.getfield 112, 3) := by decide +kernel
theorem dX1_heedCall_24 : decode cX1_heedCall 24 = .ok (.iload_n 3, 1) := by decide +kernel
theorem dX1_heedCall_25 : decode cX1_heedCall 25 = .ok (.iconst 1, 1) := by decide +kernel
theorem dX1_heedCall_26 : decode cX1_heedCall 26 = .ok (.if_icmp .ne 7, 3) := by decide +kernel
theorem dX1_heedCall_29 : decode cX1_heedCall 29 = .ok (.iconst 1, 1) := by decide +kernel
theorem dX1_heedCall_30 : decode cX1_heedCall 30 = .ok (.goto 4, 3) := by decide +kernel
theorem dX1_heedCall_33 : decode cX1_heedCall 33 = .ok (.iconst (-1), 1) := by decide +kernel
theorem dX1_heedCall_34 : decode cX1_heedCall 34 = .ok (.iadd, 1) := by decide +kernel
theorem dX1_heedCall_35 : decode cX1_heedCall 35 = .ok (.putfield 112, 3) := by decide +kernel
theorem dX1_heedCall_38 : decode cX1_heedCall 38 = .ok (.aload_n 0, 1) := by decide +kernel
theorem dX1_heedCall_39 : decode cX1_heedCall 39 = .ok (.getfield 24, 3) := by decide +kernel
theorem dX1_heedCall_42 : decode cX1_heedCall 42 = .ok (.aload_n 0, 1) := by decide +kernel
theorem dX1_heedCall_43 : decode cX1_heedCall 43 = .ok (.getfield 36, 3) := by decide +kernel
theorem dX1_heedCall_46 : decode cX1_heedCall 46 = .ok (.iload_n 1, 1) := by decide +kernel
theorem dX1_heedCall_47 : decode cX1_heedCall 47 = .ok (.iload_n 3, 1) := by decide +kernel
theorem dX1_heedCall_48 : decode cX1_heedCall 48 = .ok (.invokevirtual 115, 3) := by decide +kernel
theorem dX1_heedCall_51 : decode cX1_heedCall 51 = .ok (.aload_n 2, 1) := by decide +kernel
theorem dX1_heedCall_52 : decode cX1_heedCall 52 = .ok (.getfield 119, 3) := by decide +kernel
theorem dX1_heedCall_55 : decode cX1_heedCall 55 = .ok (.ifCond .eq 24, 3) := by decide +kernel
theorem dX1_heedCall_58 : decode cX1_heedCall 58 = .ok (.aload_n 2, 1) := by decide +kernel
theorem dX1_heedCall_59 : decode cX1_heedCall 59 = .ok (.getfield 119, 3) := by decide +kernel
theorem dX1_heedCall_62 : decode cX1_heedCall 62 = .ok (.iload_n 3, 1) := by decide +kernel
theorem dX1_heedCall_63 : decode cX1_heedCall 63 = .ok (.if_icmp .eq 16, 3) := by decide +kernel
theorem dX1_heedCall_66 : decode cX1_heedCall 66 = .ok (.aload_n 0, 1) := by decide +kernel
theorem dX1_heedCall_67 : decode cX1_heedCall 67 = .ok (.getfield 24, 3) := by decide +kernel
theorem dX1_heedCall_70 : decode cX1_heedCall 70 = .ok (.dup, 1) := by decide +kernel
theorem dX1_heedCall_71 : decode cX1_heedCall 71 = .ok (.getfield 122, 3) := by decide +kernel
theorem dX1_heedCall_74 : decode cX1_heedCall 74 = .ok (.iconst 1, 1) := by decide +kernel
theorem dX1_heedCall_75 : decode cX1_heedCall 75 = .ok (.iadd, 1) := by decide +kernel
theorem dX1_heedCall_76 : decode cX1_heedCall 76 = .ok (.putfield 122, 3) := by decide +kernel
theorem dX1_heedCall_79 : decode cX1_heedCall 79 = .ok (.aload_n 2, 1) := by decide +kernel
theorem dX1_heedCall_80 : decode cX1_heedCall 80 = .ok (.iload_n 3, 1) := by decide +kernel
theorem dX1_heedCall_81 : decode cX1_heedCall 81 = .ok (.putfield 119, 3) := by decide +kernel
theorem dX1_heedCall_84 : decode cX1_heedCall 84 = .ok (.aload_n 2, 1) := by decide +kernel
theorem dX1_heedCall_85 : decode cX1_heedCall 85 = .ok (.iconst 0, 1) := by decide +kernel
theorem dX1_heedCall_86 : decode cX1_heedCall 86 = .ok (.putfield 86, 3) := by decide +kernel
theorem dX1_heedCall_89 : decode cX1_heedCall 89 = .ok (.aload_n 2, 1) := by decide +kernel
theorem dX1_heedCall_90 : decode cX1_heedCall 90 = .ok (.iconst 0, 1) := by decide +kernel
theorem dX1_heedCall_91 : decode cX1_heedCall 91 = .ok (.putfield 125, 3) := by decide +kernel
theorem dX1_heedCall_94 : decode cX1_heedCall 94 = .ok (.return_, 1) := by decide +kernel
set_option maxRecDepth 20000 in
theorem ggX1_isQuiet_X4_canAsItWants : GoodIn wsX1_isQuiet wsX4_canAsItWants := goodIn_r _ [7, 8, 9, 10, 11, 12, 6, 13, 14, 15, 16, 17, 18, 19, 20, 21, 22, 29, 30, 31, 32, 33, 34, 35, 36, 37, 38, 39, 40, 41, 42, 43] (by decide +kernel) (by decide +kernel)
set_option maxRecDepth 20000 in
theorem gX1_isQuiet_X4_canAsItWants : GoodIn wsX1_isQuiet (wsV RX1 102 RX4 yX4_canAsItWants wsX4_canAsItWants) := goodIn_app (goodIn_of _ (by decide +kernel)) ggX1_isQuiet_X4_canAsItWants
theorem dX1_isQuiet_0 : decode cX1_isQuiet 0 = .ok (.iconst 0, 1) := by decide +kernel
theorem dX1_isQuiet_1 : decode cX1_isQuiet 1 = .ok (.istore_n 1, 1) := by decide +kernel
theorem dX1_isQuiet_2 : decode cX1_isQuiet 2 = .ok (.iload_n 1, 1) := by decide +kernel
theorem dX1_isQuiet_3 : decode cX1_isQuiet 3 = .ok (.aload_n 0, 1) := by decide +kernel
theorem dX1_isQuiet_4 : decode cX1_isQuiet 4 = .ok (.getfield 29, 3) := by decide +kernel
theorem dX1_isQuiet_7 : decode cX1_isQuiet 7 = .ok (.if_icmp .ge 23, 3) := by decide +kernel
theorem dX1_isQuiet_10 : decode cX1_isQuiet 10 = .ok (.aload_n 0, 1) := by decide +kernel
theorem dX1_isQuiet_11 : decode cX1_isQuiet 11 = .ok (.getfield 11, 3) := by decide +kernel
theorem dX1_isQuiet_14 : decode cX1_isQuiet 14 = .ok (.iload_n 1, 1) := by decide +kernel
theorem dX1_isQuiet_15 : decode cX1_isQuiet 15 = .ok (.aaload, 1) := by decide +kernel
theorem dX1_isQuiet_16 : decode cX1_isQuiet 16 = .ok (.invokevirtual 102, 3) := by decide +kernel
theorem dX1_isQuiet_19 : decode cX1_isQuiet 19 = .ok (.ifCond .eq 5, 3) := by decide +kernel
theorem dX1_isQuiet_22 : decode cX1_isQuiet 22 = .ok (.iconst 0, 1) := by decide +kernel
theorem dX1_isQuiet_23 : decode cX1_isQuiet 23 = .ok (.ireturn, 1) := by decide +kernel
theorem dX1_isQuiet_24 : decode cX1_isQuiet 24 = .ok (.iinc 1 1, 3) := by decide +kernel
theorem dX1_isQuiet_27 : decode cX1_isQuiet 27 = .ok (.goto (-25), 3) := by decide +kernel
theorem dX1_isQuiet_30 : decode cX1_isQuiet 30 = .ok (.iconst 1, 1) := by decide +kernel
theorem dX1_isQuiet_31 : decode cX1_isQuiet 31 = .ok (.ireturn, 1) := by decide +kernel
set_option maxRecDepth 20000 in
theorem ggX1_goodStages_X4_judged : GoodIn wsX1_goodStages wsX4_judged := goodIn_r _ [7, 8, 9, 10, 17, 18, 19, 20, 21, 22, 23, 24, 25, 26, 27, 28, 29, 30, 31] (by decide +kernel) (by decide +kernel)
set_option maxRecDepth 20000 in
theorem gX1_goodStages_X4_judged : GoodIn wsX1_goodStages (wsV RX1 128 RX4 yX4_judged wsX4_judged) := goodIn_app (goodIn_of _ (by decide +kernel)) ggX1_goodStages_X4_judged
theorem dX1_goodStages_0 : decode cX1_goodStages 0 = .ok (.iconst 0, 1) := by decide +kernel
theorem dX1_goodStages_1 : decode cX1_goodStages 1 = .ok (.istore_n 1, 1) := by decide +kernel
theorem dX1_goodStages_2 : decode cX1_goodStages 2 = .ok (.iconst 0, 1) := by decide +kernel
theorem dX1_goodStages_3 : decode cX1_goodStages 3 = .ok (.istore_n 2, 1) := by decide +kernel
theorem dX1_goodStages_4 : decode cX1_goodStages 4 = .ok (.iload_n 2, 1) := by decide +kernel
theorem dX1_goodStages_5 : decode cX1_goodStages 5 = .ok (.aload_n 0, 1) := by decide +kernel
theorem dX1_goodStages_6 : decode cX1_goodStages 6 = .ok (.getfield 29, 3) := by decide +kernel
theorem dX1_goodStages_9 : decode cX1_goodStages 9 = .ok (.if_icmp .ge 29, 3) := by decide +kernel
theorem dX1_goodStages_12 : decode cX1_goodStages 12 = .ok (.iload_n 1, 1) := by decide +kernel
theorem dX1_goodStages_13 : decode cX1_goodStages 13 = .ok (.aload_n 0, 1) := by decide +kernel
theorem dX1_goodStages_14 : decode cX1_goodStages 14 = .ok (.getfield 11, 3) := by decide +kernel
theorem dX1_goodStages_17 : decode cX1_goodStages 17 = .ok (.iload_n 2, 1) := by decide +kernel
theorem dX1_goodStages_18 : decode cX1_goodStages 18 = .ok (.aaload, 1) := by decide +kernel
theorem dX1_goodStages_19 : decode cX1_goodStages 19 = .ok (.invokevirtual 128, 3) := by decide +kernel
theorem dX1_goodStages_22 : decode cX1_goodStages 22 = .ok (.ifCond .ne 7, 3) := by decide +kernel
theorem dX1_goodStages_25 : decode cX1_goodStages 25 = .ok (.iconst 1, 1) := by decide +kernel
theorem dX1_goodStages_26 : decode cX1_goodStages 26 = .ok (.goto 4, 3) := by decide +kernel
theorem dX1_goodStages_29 : decode cX1_goodStages 29 = .ok (.iconst 0, 1) := by decide +kernel
theorem dX1_goodStages_30 : decode cX1_goodStages 30 = .ok (.iadd, 1) := by decide +kernel
theorem dX1_goodStages_31 : decode cX1_goodStages 31 = .ok (.istore_n 1, 1) := by decide +kernel
theorem dX1_goodStages_32 : decode cX1_goodStages 32 = .ok (.iinc 2 1, 3) := by decide +kernel
theorem dX1_goodStages_35 : decode cX1_goodStages 35 = .ok (.goto (-31), 3) := by decide +kernel
theorem dX1_goodStages_38 : decode cX1_goodStages 38 = .ok (.iload_n 1, 1) := by decide +kernel
theorem dX1_goodStages_39 : decode cX1_goodStages 39 = .ok (.ireturn, 1) := by decide +kernel
theorem dX1_stuckStages_0 : decode cX1_stuckStages 0 = .ok (.iconst 0, 1) := by decide +kernel
theorem dX1_stuckStages_1 : decode cX1_stuckStages 1 = .ok (.istore_n 1, 1) := by decide +kernel
theorem dX1_stuckStages_2 : decode cX1_stuckStages 2 = .ok (.iconst 0, 1) := by decide +kernel
theorem dX1_stuckStages_3 : decode cX1_stuckStages 3 = .ok (.istore_n 2, 1) := by decide +kernel
theorem dX1_stuckStages_4 : decode cX1_stuckStages 4 = .ok (.iload_n 2, 1) := by decide +kernel
theorem dX1_stuckStages_5 : decode cX1_stuckStages 5 = .ok (.aload_n 0, 1) := by decide +kernel
theorem dX1_stuckStages_6 : decode cX1_stuckStages 6 = .ok (.getfield 29, 3) := by decide +kernel
theorem dX1_stuckStages_9 : decode cX1_stuckStages 9 = .ok (.if_icmp .ge 29, 3) := by decide +kernel
theorem dX1_stuckStages_12 : decode cX1_stuckStages 12 = .ok (.iload_n 1, 1) := by decide +kernel
theorem dX1_stuckStages_13 : decode cX1_stuckStages 13 = .ok (.aload_n 0, 1) := by decide +kernel
theorem dX1_stuckStages_14 : decode cX1_stuckStages 14 = .ok (.getfield 11, 3) := by decide +kernel
theorem dX1_stuckStages_17 : decode cX1_stuckStages 17 = .ok (.iload_n 2, 1) := by decide +kernel
theorem dX1_stuckStages_18 : decode cX1_stuckStages 18 = .ok (.aaload, 1) := by decide +kernel
theorem dX1_stuckStages_19 : decode cX1_stuckStages 19 = .ok (.getfield 131, 3) := by decide +kernel
theorem dX1_stuckStages_22 : decode cX1_stuckStages 22 = .ok (.ifCond .eq 7, 3) := by decide +kernel
theorem dX1_stuckStages_25 : decode cX1_stuckStages 25 = .ok (.iconst 1, 1) := by decide +kernel
theorem dX1_stuckStages_26 : decode cX1_stuckStages 26 = .ok (.goto 4, 3) := by decide +kernel
theorem dX1_stuckStages_29 : decode cX1_stuckStages 29 = .ok (.iconst 0, 1) := by decide +kernel
theorem dX1_stuckStages_30 : decode cX1_stuckStages 30 = .ok (.iadd, 1) := by decide +kernel
theorem dX1_stuckStages_31 : decode cX1_stuckStages 31 = .ok (.istore_n 1, 1) := by decide +kernel
theorem dX1_stuckStages_32 : decode cX1_stuckStages 32 = .ok (.iinc 2 1, 3) := by decide +kernel
theorem dX1_stuckStages_35 : decode cX1_stuckStages 35 = .ok (.goto (-31), 3) := by decide +kernel
theorem dX1_stuckStages_38 : decode cX1_stuckStages 38 = .ok (.iload_n 1, 1) := by decide +kernel
theorem dX1_stuckStages_39 : decode cX1_stuckStages 39 = .ok (.ireturn, 1) := by decide +kernel
set_option maxRecDepth 20000 in
theorem ggX1_off_X4_off : GoodIn wsX1_off wsX4_off := goodIn_r _ [7, 8, 9, 10, 11, 12, 13, 20, 21, 22, 23, 24, 25, 26, 27, 28, 29, 30, 31, 32, 33, 34] (by decide +kernel) (by decide +kernel)
set_option maxRecDepth 20000 in
theorem gX1_off_X4_off : GoodIn wsX1_off (wsV RX1 135 RX4 yX4_off wsX4_off) := goodIn_app (goodIn_of _ (by decide +kernel)) ggX1_off_X4_off
theorem dX1_off_0 : decode cX1_off 0 = .ok (.iconst 0, 1) := by decide +kernel
theorem dX1_off_1 : decode cX1_off 1 = .ok (.istore_n 1, 1) := by decide +kernel
theorem dX1_off_2 : decode cX1_off 2 = .ok (.iconst 0, 1) := by decide +kernel
theorem dX1_off_3 : decode cX1_off 3 = .ok (.istore_n 2, 1) := by decide +kernel
theorem dX1_off_4 : decode cX1_off 4 = .ok (.iload_n 2, 1) := by decide +kernel
theorem dX1_off_5 : decode cX1_off 5 = .ok (.aload_n 0, 1) := by decide +kernel
theorem dX1_off_6 : decode cX1_off 6 = .ok (.getfield 29, 3) := by decide +kernel
theorem dX1_off_9 : decode cX1_off 9 = .ok (.if_icmp .ge 21, 3) := by decide +kernel
theorem dX1_off_12 : decode cX1_off 12 = .ok (.iload_n 1, 1) := by decide +kernel
theorem dX1_off_13 : decode cX1_off 13 = .ok (.aload_n 0, 1) := by decide +kernel
theorem dX1_off_14 : decode cX1_off 14 = .ok (.getfield 11, 3) := by decide +kernel
theorem dX1_off_17 : decode cX1_off 17 = .ok (.iload_n 2, 1) := by decide +kernel
theorem dX1_off_18 : decode cX1_off 18 = .ok (.aaload, 1) := by decide +kernel
theorem dX1_off_19 : decode cX1_off 19 = .ok (.invokevirtual 135, 3) := by decide +kernel
theorem dX1_off_22 : decode cX1_off 22 = .ok (.iadd, 1) := by decide +kernel
theorem dX1_off_23 : decode cX1_off 23 = .ok (.istore_n 1, 1) := by decide +kernel
theorem dX1_off_24 : decode cX1_off 24 = .ok (.iinc 2 1, 3) := by decide +kernel
theorem dX1_off_27 : decode cX1_off 27 = .ok (.goto (-23), 3) := by decide +kernel
theorem dX1_off_30 : decode cX1_off 30 = .ok (.iload_n 1, 1) := by decide +kernel
theorem dX1_off_31 : decode cX1_off 31 = .ok (.ireturn, 1) := by decide +kernel
theorem dX1_packed_0 : decode cX1_packed 0 = .ok (.lconst 0, 1) := by decide +kernel
theorem dX1_packed_1 : decode cX1_packed 1 = .ok (.lstore_n 1, 1) := by decide +kernel
theorem dX1_packed_2 : decode cX1_packed 2 = .ok (.iconst 0, 1) := by decide +kernel
theorem dX1_packed_3 : decode cX1_packed 3 = .ok (.istore_n 3, 1) := by decide +kernel
theorem dX1_packed_4 : decode cX1_packed 4 = .ok (.iload_n 3, 1) := by decide +kernel
theorem dX1_packed_5 : decode cX1_packed 5 = .ok (.aload_n 0, 1) := by decide +kernel
theorem dX1_packed_6 : decode cX1_packed 6 = .ok (.getfield 29, 3) := by decide +kernel
theorem dX1_packed_9 : decode cX1_packed 9 = .ok (.if_icmp .ge 52, 3) := by decide +kernel
theorem dX1_packed_12 : decode cX1_packed 12 = .ok (.aload_n 0, 1) := by decide +kernel
theorem dX1_packed_13 : decode cX1_packed 13 = .ok (.getfield 11, 3) := by decide +kernel
theorem dX1_packed_16 : decode cX1_packed 16 = .ok (.iload_n 3, 1) := by decide +kernel
theorem dX1_packed_17 : decode cX1_packed 17 = .ok (.aaload, 1) := by decide +kernel
theorem dX1_packed_18 : decode cX1_packed 18 = .ok (.astore 4, 2) := by decide +kernel
theorem dX1_packed_20 : decode cX1_packed 20 = .ok (.lload_n 1, 1) := by decide +kernel
theorem dX1_packed_21 : decode cX1_packed 21 = .ok (.iconst 4, 1) := by decide +kernel
theorem dX1_packed_22 : decode cX1_packed 22 = .ok (.lshl, 1) := by decide +kernel
theorem dX1_packed_23 : decode cX1_packed 23 = .ok (.aload 4, 2) := by decide +kernel
theorem dX1_packed_25 : decode cX1_packed 25 = .ok (.getfield 112, 3) := by decide +kernel
theorem dX1_packed_28 : decode cX1_packed 28 = .ok (.iconst 5, 1) := by decide +kernel
theorem dX1_packed_29 : decode cX1_packed 29 = .ok (.iadd, 1) := by decide +kernel
theorem dX1_packed_30 : decode cX1_packed 30 = .ok (.i2l, 1) := by decide +kernel
theorem dX1_packed_31 : decode cX1_packed 31 = .ok (.lor, 1) := by decide +kernel
theorem dX1_packed_32 : decode cX1_packed 32 = .ok (.lstore_n 1, 1) := by decide +kernel
theorem dX1_packed_33 : decode cX1_packed 33 = .ok (.lload_n 1, 1) := by decide +kernel
theorem dX1_packed_34 : decode cX1_packed 34 = .ok (.iconst 4, 1) := by decide +kernel
theorem dX1_packed_35 : decode cX1_packed 35 = .ok (.lshl, 1) := by decide +kernel
theorem dX1_packed_36 : decode cX1_packed 36 = .ok (.aload 4, 2) := by decide +kernel
theorem dX1_packed_38 : decode cX1_packed 38 = .ok (.getfield 86, 3) := by decide +kernel
theorem dX1_packed_41 : decode cX1_packed 41 = .ok (.i2l, 1) := by decide +kernel
theorem dX1_packed_42 : decode cX1_packed 42 = .ok (.lor, 1) := by decide +kernel
theorem dX1_packed_43 : decode cX1_packed 43 = .ok (.lstore_n 1, 1) := by decide +kernel
theorem dX1_packed_44 : decode cX1_packed 44 = .ok (.lload_n 1, 1) := by decide +kernel
theorem dX1_packed_45 : decode cX1_packed 45 = .ok (.iconst 2, 1) := by decide +kernel
theorem dX1_packed_46 : decode cX1_packed 46 = .ok (.lshl, 1) := by decide +kernel
theorem dX1_packed_47 : decode cX1_packed 47 = .ok (.aload 4, 2) := by decide +kernel
theorem dX1_packed_49 : decode cX1_packed 49 = .ok (.getfield 125, 3) := by decide +kernel
theorem dX1_packed_52 : decode cX1_packed 52 = .ok (.i2l, 1) := by decide +kernel
theorem dX1_packed_53 : decode cX1_packed 53 = .ok (.lor, 1) := by decide +kernel
theorem dX1_packed_54 : decode cX1_packed 54 = .ok (.lstore_n 1, 1) := by decide +kernel
theorem dX1_packed_55 : decode cX1_packed 55 = .ok (.iinc 3 1, 3) := by decide +kernel
theorem dX1_packed_58 : decode cX1_packed 58 = .ok (.goto (-54), 3) := by decide +kernel
theorem dX1_packed_61 : decode cX1_packed 61 = .ok (.lload_n 1, 1) := by decide +kernel
theorem dX1_packed_62 : decode cX1_packed 62 = .ok (.lreturn, 1) := by decide +kernel
set_option maxRecDepth 20000 in
theorem ggX2_init_X1_init : GoodIn wsX2_init wsX1_init := goodIn_r _ [10, 11, 2, 3, 12, 13, 14, 15, 16, 17, 18, 19, 20, 21, 22, 23, 24, 25, 26, 27, 28, 29, 30, 31, 32, 33, 37, 38, 39, 40, 41, 42, 43, 44, 45, 46, 47, 48, 49, 50, 51, 52, 53, 54, 55, 56, 57, 58, 59, 60, 61, 62] (by decide +kernel) (by decide +kernel)
set_option maxRecDepth 20000 in
theorem gX2_init_X1_init : GoodIn wsX2_init (wsX1_init) := ggX2_init_X1_init
theorem dX2_init_0 : decode cX2_init 0 = .ok (.aload_n 0, 1) := by decide +kernel
theorem dX2_init_1 : decode cX2_init 1 = .ok (.invokespecial 3, 3) := by decide +kernel
theorem dX2_init_4 : decode cX2_init 4 = .ok (.aload_n 0, 1) := by decide +kernel
theorem dX2_init_5 : decode cX2_init 5 = .ok (.bipush 6, 2) := by decide +kernel
theorem dX2_init_7 : decode cX2_init 7 = .ok (.anewarray 9, 3) := by decide +kernel
theorem dX2_init_10 : decode cX2_init 10 = .ok (.putfield 11, 3) := by decide +kernel
theorem dX2_init_13 : decode cX2_init 13 = .ok (.iconst 0, 1) := by decide +kernel
theorem dX2_init_14 : decode cX2_init 14 = .ok (.istore_n 1, 1) := by decide +kernel
theorem dX2_init_15 : decode cX2_init 15 = .ok (.iload_n 1, 1) := by decide +kernel
theorem dX2_init_16 : decode cX2_init 16 = .ok (.bipush 6, 2) := by decide +kernel
theorem dX2_init_18 : decode cX2_init 18 = .ok (.if_icmp .ge 22, 3) := by decide +kernel
theorem dX2_init_21 : decode cX2_init 21 = .ok (.aload_n 0, 1) := by decide +kernel
theorem dX2_init_22 : decode cX2_init 22 = .ok (.getfield 11, 3) := by decide +kernel
theorem dX2_init_25 : decode cX2_init 25 = .ok (.iload_n 1, 1) := by decide +kernel
theorem dX2_init_26 : decode cX2_init 26 = .ok (.new 9, 3) := by decide +kernel
theorem dX2_init_29 : decode cX2_init 29 = .ok (.dup, 1) := by decide +kernel
theorem dX2_init_30 : decode cX2_init 30 = .ok (.invokespecial 17, 3) := by decide +kernel
theorem dX2_init_33 : decode cX2_init 33 = .ok (.aastore, 1) := by decide +kernel
theorem dX2_init_34 : decode cX2_init 34 = .ok (.iinc 1 1, 3) := by decide +kernel
theorem dX2_init_37 : decode cX2_init 37 = .ok (.goto (-22), 3) := by decide +kernel
theorem dX2_init_40 : decode cX2_init 40 = .ok (.return_, 1) := by decide +kernel
theorem dX2_forget_0 : decode cX2_forget 0 = .ok (.aload_n 0, 1) := by decide +kernel
theorem dX2_forget_1 : decode cX2_forget 1 = .ok (.iconst 0, 1) := by decide +kernel
theorem dX2_forget_2 : decode cX2_forget 2 = .ok (.putfield 18, 3) := by decide +kernel
theorem dX2_forget_5 : decode cX2_forget 5 = .ok (.return_, 1) := by decide +kernel
set_option maxRecDepth 20000 in
theorem ggX2_keep_X1_copyFrom : GoodIn wsX2_keep wsX1_copyFrom := goodIn_r _ [12, 13, 14, 15, 16, 17, 18, 19, 20, 21, 22, 23, 24, 25, 26, 27, 28, 29, 30, 31, 32, 33, 34, 35, 36, 37, 38, 39, 40, 41, 42, 43, 44, 45, 46, 47, 48, 49, 50, 51, 55, 56, 57, 58, 59, 60, 61, 62, 63, 64, 65, 66, 67, 68, 69, 70, 71, 72, 73, 74, 75, 76, 77, 78, 79, 80] (by decide +kernel) (by decide +kernel)
set_option maxRecDepth 20000 in
theorem gX2_keep_X1_copyFrom : GoodIn wsX2_keep (wsV RX2 25 RX1 yX1_copyFrom wsX1_copyFrom) := goodIn_app (goodIn_of _ (by decide +kernel)) ggX2_keep_X1_copyFrom
theorem dX2_keep_0 : decode cX2_keep 0 = .ok (.aload_n 0, 1) := by decide +kernel
theorem dX2_keep_1 : decode cX2_keep 1 = .ok (.getfield 11, 3) := by decide +kernel
theorem dX2_keep_4 : decode cX2_keep 4 = .ok (.aload_n 0, 1) := by decide +kernel
theorem dX2_keep_5 : decode cX2_keep 5 = .ok (.getfield 22, 3) := by decide +kernel
theorem dX2_keep_8 : decode cX2_keep 8 = .ok (.aaload, 1) := by decide +kernel
theorem dX2_keep_9 : decode cX2_keep 9 = .ok (.aload_n 1, 1) := by decide +kernel
theorem dX2_keep_10 : decode cX2_keep 10 = .ok (.invokevirtual 25, 3) := by decide +kernel
theorem dX2_keep_13 : decode cX2_keep 13 = .ok (.aload_n 0, 1) := by decide +kernel
theorem dX2_keep_14 : decode cX2_keep 14 = .ok (.aload_n 0, 1) := by decide +kernel
theorem dX2_keep_15 : decode cX2_keep 15 = .ok (.getfield 22, 3) := by decide +kernel
theorem dX2_keep_18 : decode cX2_keep 18 = .ok (.iconst 1, 1) := by decide +kernel
theorem dX2_keep_19 : decode cX2_keep 19 = .ok (.iadd, 1) := by decide +kernel
theorem dX2_keep_20 : decode cX2_keep 20 = .ok (.bipush 6, 2) := by decide +kernel
theorem dX2_keep_22 : decode cX2_keep 22 = .ok (.irem, 1) := by decide +kernel
theorem dX2_keep_23 : decode cX2_keep 23 = .ok (.putfield 22, 3) := by decide +kernel
theorem dX2_keep_26 : decode cX2_keep 26 = .ok (.aload_n 0, 1) := by decide +kernel
theorem dX2_keep_27 : decode cX2_keep 27 = .ok (.aload_n 0, 1) := by decide +kernel
theorem dX2_keep_28 : decode cX2_keep 28 = .ok (.getfield 18, 3) := by decide +kernel
theorem dX2_keep_31 : decode cX2_keep 31 = .ok (.iconst 1, 1) := by decide +kernel
theorem dX2_keep_32 : decode cX2_keep 32 = .ok (.iadd, 1) := by decide +kernel
theorem dX2_keep_33 : decode cX2_keep 33 = .ok (.bipush 6, 2) := by decide +kernel
theorem dX2_keep_35 : decode cX2_keep 35 = .ok (.invokestatic 29, 3) := by decide +kernel
theorem dX2_keep_38 : decode cX2_keep 38 = .ok (.putfield 18, 3) := by decide +kernel
theorem dX2_keep_41 : decode cX2_keep 41 = .ok (.return_, 1) := by decide +kernel
set_option maxRecDepth 20000 in
theorem ggX2_giveBack_X1_copyFrom : GoodIn wsX2_giveBack wsX1_copyFrom := goodIn_r _ [8, 9, 10, 11, 12, 13, 14, 15, 16, 17, 18, 19, 20, 21, 22, 23, 24, 25, 26, 27, 28, 29, 30, 31, 32, 33, 34, 35, 36, 37, 38, 39, 40, 41, 42, 43, 44, 45, 46, 47, 51, 52, 53, 54, 55, 56, 57, 58, 59, 60, 61, 62, 63, 64, 65, 66, 67, 68, 69, 70, 71, 72, 73, 74, 75, 76] (by decide +kernel) (by decide +kernel)
set_option maxRecDepth 20000 in
theorem gX2_giveBack_X1_copyFrom : GoodIn wsX2_giveBack (wsV RX2 25 RX1 yX1_copyFrom wsX1_copyFrom) := goodIn_app (goodIn_of _ (by decide +kernel)) ggX2_giveBack_X1_copyFrom
theorem dX2_giveBack_0 : decode cX2_giveBack 0 = .ok (.aload_n 0, 1) := by decide +kernel
theorem dX2_giveBack_1 : decode cX2_giveBack 1 = .ok (.aload_n 0, 1) := by decide +kernel
theorem dX2_giveBack_2 : decode cX2_giveBack 2 = .ok (.getfield 22, 3) := by decide +kernel
theorem dX2_giveBack_5 : decode cX2_giveBack 5 = .ok (.bipush 6, 2) := by decide +kernel
theorem dX2_giveBack_7 : decode cX2_giveBack 7 = .ok (.iadd, 1) := by decide +kernel
theorem dX2_giveBack_8 : decode cX2_giveBack 8 = .ok (.iconst 1, 1) := by decide +kernel
theorem dX2_giveBack_9 : decode cX2_giveBack 9 = .ok (.isub, 1) := by decide +kernel
theorem dX2_giveBack_10 : decode cX2_giveBack 10 = .ok (.bipush 6, 2) := by decide +kernel
theorem dX2_giveBack_12 : decode cX2_giveBack 12 = .ok (.irem, 1) := by decide +kernel
theorem dX2_giveBack_13 : decode cX2_giveBack 13 = .ok (.putfield 22, 3) := by decide +kernel
theorem dX2_giveBack_16 : decode cX2_giveBack 16 = .ok (.aload_n 1, 1) := by decide +kernel
theorem dX2_giveBack_17 : decode cX2_giveBack 17 = .ok (.aload_n 0, 1) := by decide +kernel
theorem dX2_giveBack_18 : decode cX2_giveBack 18 = .ok (.getfield 11, 3) := by decide +kernel
theorem dX2_giveBack_21 : decode cX2_giveBack 21 = .ok (.aload_n 0, 1) := by decide +kernel
theorem dX2_giveBack_22 : decode cX2_giveBack 22 = .ok (.getfield 22, 3) := by decide +kernel
theorem dX2_giveBack_25 : decode cX2_giveBack 25 = .ok (.aaload, 1) := by decide +kernel
theorem dX2_giveBack_26 : decode cX2_giveBack 26 = .ok (.invokevirtual 25, 3) := by decide +kernel
theorem dX2_giveBack_29 : decode cX2_giveBack 29 = .ok (.aload_n 0, 1) := by decide +kernel
theorem dX2_giveBack_30 : decode cX2_giveBack 30 = .ok (.dup, 1) := by decide +kernel
theorem dX2_giveBack_31 : decode cX2_giveBack 31 = .ok (.getfield 18, 3) := by decide +kernel
theorem dX2_giveBack_34 : decode cX2_giveBack 34 = .ok (.iconst 1, 1) := by decide +kernel
theorem dX2_giveBack_35 : decode cX2_giveBack 35 = .ok (.isub, 1) := by decide +kernel
theorem dX2_giveBack_36 : decode cX2_giveBack 36 = .ok (.putfield 18, 3) := by decide +kernel
theorem dX2_giveBack_39 : decode cX2_giveBack 39 = .ok (.return_, 1) := by decide +kernel
theorem dX3_init_0 : decode cX3_init 0 = .ok (.aload_n 0, 1) := by decide +kernel
theorem dX3_init_1 : decode cX3_init 1 = .ok (.invokespecial 3, 3) := by decide +kernel
theorem dX3_init_4 : decode cX3_init 4 = .ok (.aload_n 0, 1) := by decide +kernel
theorem dX3_init_5 : decode cX3_init 5 = .ok (.iconst 4, 1) := by decide +kernel
theorem dX3_init_6 : decode cX3_init 6 = .ok (.newarray .int, 2) := by decide +kernel
theorem dX3_init_8 : decode cX3_init 8 = .ok (.putfield 9, 3) := by decide +kernel
theorem dX3_init_11 : decode cX3_init 11 = .ok (.aload_n 0, 1) := by decide +kernel
theorem dX3_init_12 : decode cX3_init 12 = .ok (.iconst 4, 1) := by decide +kernel
theorem dX3_init_13 : decode cX3_init 13 = .ok (.newarray .int, 2) := by decide +kernel
theorem dX3_init_15 : decode cX3_init 15 = .ok (.putfield 15, 3) := by decide +kernel
theorem dX3_init_18 : decode cX3_init 18 = .ok (.return_, 1) := by decide +kernel
set_option maxRecDepth 20000 in
theorem ggX3_start_X3_tryTaps : GoodIn wsX3_start wsX3_tryTaps := goodIn_r _ [7, 8, 2, 9, 10, 11, 12, 13, 14, 15, 16, 17, 18, 19, 20, 21, 22, 23, 24, 25, 26, 27, 28, 29, 30, 31, 32, 33, 34, 35, 36, 37, 4, 5, 6, 41, 42, 43, 44, 45, 46, 38, 39, 40, 47, 48, 49, 50, 51, 52, 53, 54, 55, 56, 57, 58, 59, 60, 61] (by decide +kernel) (by decide +kernel)
set_option maxRecDepth 20000 in
theorem gX3_start_X3_tryTaps : GoodIn wsX3_start (va_wsS RX3 28 yX3_tryTaps wsX3_tryTaps) := goodIn_app (goodIn_of _ (by decide +kernel)) ggX3_start_X3_tryTaps
theorem dX3_start_0 : decode cX3_start 0 = .ok (.aload_n 0, 1) := by decide +kernel
theorem dX3_start_1 : decode cX3_start 1 = .ok (.ldc 18, 2) := by decide +kernel
theorem dX3_start_3 : decode cX3_start 3 = .ok (.putfield 19, 3) := by decide +kernel
theorem dX3_start_6 : decode cX3_start 6 = .ok (.aload_n 0, 1) := by decide +kernel
theorem dX3_start_7 : decode cX3_start 7 = .ok (.aload_n 1, 1) := by decide +kernel
theorem dX3_start_8 : decode cX3_start 8 = .ok (.iconst 0, 1) := by decide +kernel
theorem dX3_start_9 : decode cX3_start 9 = .ok (.aload_n 1, 1) := by decide +kernel
theorem dX3_start_10 : decode cX3_start 10 = .ok (.getfield 23, 3) := by decide +kernel
theorem dX3_start_13 : decode cX3_start 13 = .ok (.iconst 0, 1) := by decide +kernel
theorem dX3_start_14 : decode cX3_start 14 = .ok (.invokestatic 28, 3) := by decide +kernel
theorem dX3_start_17 : decode cX3_start 17 = .ok (.return_, 1) := by decide +kernel
set_option maxRecDepth 20000 in
theorem ggX3_tryTaps_X7_outOf : GoodIn wsX3_tryTaps wsX7_outOf := goodIn_r _ [20] (by decide +kernel) (by decide +kernel)
set_option maxRecDepth 20000 in
theorem gX3_tryTaps_X7_outOf_n57 : GoodIn wsX3_tryTaps (wsX7_outOf) := ggX3_tryTaps_X7_outOf
set_option maxRecDepth 20000 in
theorem ggX3_tryTaps_X1_lostBehind : GoodIn wsX3_tryTaps wsX1_lostBehind := goodIn_r _ [25, 26, 27, 28, 29, 30, 19, 31, 35, 36, 37, 38, 39, 40, 44, 45, 46, 47, 48, 49, 50, 51, 52, 53, 54, 55, 56, 57, 58] (by decide +kernel) (by decide +kernel)
set_option maxRecDepth 20000 in
theorem gX3_tryTaps_X1_lostBehind : GoodIn wsX3_tryTaps (wsV RX3 70 RX1 yX1_lostBehind wsX1_lostBehind) := goodIn_app (goodIn_of _ (by decide +kernel)) ggX3_tryTaps_X1_lostBehind
set_option maxRecDepth 20000 in
theorem ggX3_tryTaps_X3_tryTaps : GoodIn wsX3_tryTaps wsX3_tryTaps := goodIn_r _ [0, 1, 2, 3, 4, 5, 6, 7, 8, 9, 10, 11, 12, 13, 14, 15, 16, 17, 18, 19, 20, 21, 22, 23, 24, 25, 26, 27, 28, 29, 30, 31, 32, 33, 34, 35, 36, 37, 38, 39, 40, 41, 42, 43, 44, 45, 46, 47, 48, 49, 50, 51, 52, 53, 54, 55, 56, 57, 58] (by decide +kernel) (by decide +kernel)
set_option maxRecDepth 20000 in
theorem gX3_tryTaps_X3_tryTaps : GoodIn wsX3_tryTaps (va_wsS RX3 28 yX3_tryTaps wsX3_tryTaps) := goodIn_app (goodIn_of _ (by decide +kernel)) ggX3_tryTaps_X3_tryTaps
theorem dX3_tryTaps_0 : decode cX3_tryTaps 0 = .ok (.iload_n 2, 1) := by decide +kernel
theorem dX3_tryTaps_1 : decode cX3_tryTaps 1 = .ok (.aload_n 1, 1) := by decide +kernel
theorem dX3_tryTaps_2 : decode cX3_tryTaps 2 = .ok (.getfield 32, 3) := by decide +kernel
theorem dX3_tryTaps_5 : decode cX3_tryTaps 5 = .ok (.if_icmp .ge 8, 3) := by decide +kernel
theorem dX3_tryTaps_8 : decode cX3_tryTaps 8 = .ok (.iload_n 2, 1) := by decide +kernel
theorem dX3_tryTaps_9 : decode cX3_tryTaps 9 = .ok (.iconst 4, 1) := by decide +kernel
theorem dX3_tryTaps_10 : decode cX3_tryTaps 10 = .ok (.if_icmp .lt 24, 3) := by decide +kernel
theorem dX3_tryTaps_13 : decode cX3_tryTaps 13 = .ok (.aload_n 0, 1) := by decide +kernel
theorem dX3_tryTaps_14 : decode cX3_tryTaps 14 = .ok (.iload 4, 2) := by decide +kernel
theorem dX3_tryTaps_16 : decode cX3_tryTaps 16 = .ok (.putfield 19, 3) := by decide +kernel
theorem dX3_tryTaps_19 : decode cX3_tryTaps 19 = .ok (.aload_n 0, 1) := by decide +kernel
theorem dX3_tryTaps_20 : decode cX3_tryTaps 20 = .ok (.getfield 9, 3) := by decide +kernel
theorem dX3_tryTaps_23 : decode cX3_tryTaps 23 = .ok (.iconst 0, 1) := by decide +kernel
theorem dX3_tryTaps_24 : decode cX3_tryTaps 24 = .ok (.aload_n 0, 1) := by decide +kernel
theorem dX3_tryTaps_25 : decode cX3_tryTaps 25 = .ok (.getfield 15, 3) := by decide +kernel
theorem dX3_tryTaps_28 : decode cX3_tryTaps 28 = .ok (.iconst 0, 1) := by decide +kernel
theorem dX3_tryTaps_29 : decode cX3_tryTaps 29 = .ok (.iconst 4, 1) := by decide +kernel
theorem dX3_tryTaps_30 : decode cX3_tryTaps 30 = .ok (.invokestatic 35, 3) := by decide +kernel
theorem dX3_tryTaps_33 : decode cX3_tryTaps 33 = .ok (.return_, 1) := by decide +kernel
theorem dX3_tryTaps_34 : decode cX3_tryTaps 34 = .ok (.aload_n 1, 1) := by decide +kernel
theorem dX3_tryTaps_35 : decode cX3_tryTaps 35 = .ok (.getfield 41, 3) := by decide +kernel
theorem dX3_tryTaps_38 : decode cX3_tryTaps 38 = .ok (.iload_n 2, 1) := by decide +kernel
theorem dX3_tryTaps_39 : decode cX3_tryTaps 39 = .ok (.aaload, 1) := by decide +kernel
theorem dX3_tryTaps_40 : decode cX3_tryTaps 40 = .ok (.astore 5, 2) := by decide +kernel
theorem dX3_tryTaps_42 : decode cX3_tryTaps 42 = .ok (.aload 5, 2) := by decide +kernel
theorem dX3_tryTaps_44 : decode cX3_tryTaps 44 = .ok (.getfield 45, 3) := by decide +kernel
theorem dX3_tryTaps_47 : decode cX3_tryTaps 47 = .ok (.ifCond .eq 11, 3) := by decide +kernel
theorem dX3_tryTaps_50 : decode cX3_tryTaps 50 = .ok (.aload 5, 2) := by decide +kernel
theorem dX3_tryTaps_52 : decode cX3_tryTaps 52 = .ok (.getfield 51, 3) := by decide +kernel
theorem dX3_tryTaps_55 : decode cX3_tryTaps 55 = .ok (.goto 5, 3) := by decide +kernel
theorem dX3_tryTaps_58 : decode cX3_tryTaps 58 = .ok (.bipush (-5), 2) := by decide +kernel
theorem dX3_tryTaps_60 : decode cX3_tryTaps 60 = .ok (.istore 6, 2) := by decide +kernel
theorem dX3_tryTaps_62 : decode cX3_tryTaps 62 = .ok (.aload 5, 2) := by decide +kernel
theorem dX3_tryTaps_64 : decode cX3_tryTaps 64 = .ok (.getfield 45, 3) := by decide +kernel
theorem dX3_tryTaps_67 : decode cX3_tryTaps 67 = .ok (.ifCond .eq 11, 3) := by decide +kernel
theorem dX3_tryTaps_70 : decode cX3_tryTaps 70 = .ok (.aload 5, 2) := by decide +kernel
theorem dX3_tryTaps_72 : decode cX3_tryTaps 72 = .ok (.getfield 51, 3) := by decide +kernel
theorem dX3_tryTaps_75 : decode cX3_tryTaps 75 = .ok (.goto 4, 3) := by decide +kernel
theorem dX3_tryTaps_78 : decode cX3_tryTaps 78 = .ok (.iconst 5, 1) := by decide +kernel
theorem dX3_tryTaps_79 : decode cX3_tryTaps 79 = .ok (.istore 7, 2) := by decide +kernel
theorem dX3_tryTaps_81 : decode cX3_tryTaps 81 = .ok (.iload 6, 2) := by decide +kernel
theorem dX3_tryTaps_83 : decode cX3_tryTaps 83 = .ok (.istore 8, 2) := by decide +kernel
theorem dX3_tryTaps_85 : decode cX3_tryTaps 85 = .ok (.iload 8, 2) := by decide +kernel
theorem dX3_tryTaps_87 : decode cX3_tryTaps 87 = .ok (.iload 7, 2) := by decide +kernel
theorem dX3_tryTaps_89 : decode cX3_tryTaps 89 = .ok (.if_icmp .gt 78, 3) := by decide +kernel
theorem dX3_tryTaps_92 : decode cX3_tryTaps 92 = .ok (.iload_n 3, 1) := by decide +kernel
theorem dX3_tryTaps_93 : decode cX3_tryTaps 93 = .ok (.sipush 1000, 3) := by decide +kernel
theorem dX3_tryTaps_96 : decode cX3_tryTaps 96 = .ok (.iload 8, 2) := by decide +kernel
theorem dX3_tryTaps_98 : decode cX3_tryTaps 98 = .ok (.aload 5, 2) := by decide +kernel
theorem dX3_tryTaps_100 : decode cX3_tryTaps 100 = .ok (.getfield 54, 3) := by decide +kernel
theorem dX3_tryTaps_103 : decode cX3_tryTaps 103 = .ok (.imul, 1) := by decide +kernel
theorem dX3_tryTaps_104 : decode cX3_tryTaps 104 = .ok (.iadd, 1) := by decide +kernel
theorem dX3_tryTaps_105 : decode cX3_tryTaps 105 = .ok (.invokestatic 57, 3) := by decide +kernel
theorem dX3_tryTaps_108 : decode cX3_tryTaps 108 = .ok (.istore 9, 2) := by decide +kernel
theorem dX3_tryTaps_110 : decode cX3_tryTaps 110 = .ok (.iload 4, 2) := by decide +kernel
theorem dX3_tryTaps_112 : decode cX3_tryTaps 112 = .ok (.iload 9, 2) := by decide +kernel
theorem dX3_tryTaps_114 : decode cX3_tryTaps 114 = .ok (.aload 5, 2) := by decide +kernel
theorem dX3_tryTaps_116 : decode cX3_tryTaps 116 = .ok (.getfield 61, 3) := by decide +kernel
theorem dX3_tryTaps_119 : decode cX3_tryTaps 119 = .ok (.isub, 1) := by decide +kernel
theorem dX3_tryTaps_120 : decode cX3_tryTaps 120 = .ok (.invokestatic 64, 3) := by decide +kernel
theorem dX3_tryTaps_123 : decode cX3_tryTaps 123 = .ok (.iadd, 1) := by decide +kernel
theorem dX3_tryTaps_124 : decode cX3_tryTaps 124 = .ok (.istore 10, 2) := by decide +kernel
theorem dX3_tryTaps_126 : decode cX3_tryTaps 126 = .ok (.iload 10, 2) := by decide +kernel
theorem dX3_tryTaps_128 : decode cX3_tryTaps 128 = .ok (.aload_n 0, 1) := by decide +kernel
theorem dX3_tryTaps_129 : decode cX3_tryTaps 129 = .ok (.getfield 19, 3) := by decide +kernel
theorem dX3_tryTaps_132 : decode cX3_tryTaps 132 = .ok (.if_icmp .ge 29, 3) := by decide +kernel
theorem dX3_tryTaps_135 : decode cX3_tryTaps 135 = .ok (.aload_n 0, 1) := by decide +kernel
theorem dX3_tryTaps_136 : decode cX3_tryTaps 136 = .ok (.getfield 9, 3) := by decide +kernel
theorem dX3_tryTaps_139 : decode cX3_tryTaps 139 = .ok (.iload_n 2, 1) := by decide +kernel
theorem dX3_tryTaps_140 : decode cX3_tryTaps 140 = .ok (.iload 8, 2) := by decide +kernel
theorem dX3_tryTaps_142 : decode cX3_tryTaps 142 = .ok (.iastore, 1) := by decide +kernel
theorem dX3_tryTaps_143 : decode cX3_tryTaps 143 = .ok (.aload_n 0, 1) := by decide +kernel
theorem dX3_tryTaps_144 : decode cX3_tryTaps 144 = .ok (.aload_n 1, 1) := by decide +kernel
theorem dX3_tryTaps_145 : decode cX3_tryTaps 145 = .ok (.iload_n 2, 1) := by decide +kernel
theorem dX3_tryTaps_146 : decode cX3_tryTaps 146 = .ok (.iconst 1, 1) := by decide +kernel
theorem dX3_tryTaps_147 : decode cX3_tryTaps 147 = .ok (.iadd, 1) := by decide +kernel
theorem dX3_tryTaps_148 : decode cX3_tryTaps 148 = .ok (.iload 9, 2) := by decide +kernel
theorem dX3_tryTaps_150 : decode cX3_tryTaps 150 = .ok (.aload_n 1, 1) := by decide +kernel
theorem dX3_tryTaps_151 : decode cX3_tryTaps 151 = .ok (.iload_n 2, 1) := by decide +kernel
theorem dX3_tryTaps_152 : decode cX3_tryTaps 152 = .ok (.invokevirtual 70, 3) := by decide +kernel
theorem dX3_tryTaps_155 : decode cX3_tryTaps 155 = .ok (.isub, 1) := by decide +kernel
theorem dX3_tryTaps_156 : decode cX3_tryTaps 156 = .ok (.iload 10, 2) := by decide +kernel
theorem dX3_tryTaps_158 : decode cX3_tryTaps 158 = .ok (.invokestatic 28, 3) := by decide +kernel
theorem dX3_tryTaps_161 : decode cX3_tryTaps 161 = .ok (.iinc 8 1, 3) := by decide +kernel
theorem dX3_tryTaps_164 : decode cX3_tryTaps 164 = .ok (.goto (-79), 3) := by decide +kernel
theorem dX3_tryTaps_167 : decode cX3_tryTaps 167 = .ok (.return_, 1) := by decide +kernel
theorem dX4_init_0 : decode cX4_init 0 = .ok (.aload_n 0, 1) := by decide +kernel
theorem dX4_init_1 : decode cX4_init 1 = .ok (.invokespecial 3, 3) := by decide +kernel
theorem dX4_init_4 : decode cX4_init 4 = .ok (.return_, 1) := by decide +kernel
theorem dX4_layDown_0 : decode cX4_layDown 0 = .ok (.aload_n 1, 1) := by decide +kernel
theorem dX4_layDown_1 : decode cX4_layDown 1 = .ok (.arraylength, 1) := by decide +kernel
theorem dX4_layDown_2 : decode cX4_layDown 2 = .ok (.getstatic 9, 3) := by decide +kernel
theorem dX4_layDown_5 : decode cX4_layDown 5 = .ok (.arraylength, 1) := by decide +kernel
theorem dX4_layDown_6 : decode cX4_layDown 6 = .ok (.if_icmp .ge 4, 3) := by decide +kernel
theorem dX4_layDown_9 : decode cX4_layDown 9 = .ok (.return_, 1) := by decide +kernel
theorem dX4_layDown_10 : decode cX4_layDown 10 = .ok (.aload_n 0, 1) := by decide +kernel
theorem dX4_layDown_11 : decode cX4_layDown 11 = .ok (.aload_n 1, 1) := by decide +kernel
theorem dX4_layDown_12 : decode cX4_layDown 12 = .ok (.iconst 0, 1) := by decide +kernel
theorem dX4_layDown_13 : decode cX4_layDown 13 = .ok (.iaload, 1) := by decide +kernel
theorem dX4_layDown_14 : decode cX4_layDown 14 = .ok (.putfield 13, 3) := by decide +kernel
theorem dX4_layDown_17 : decode cX4_layDown 17 = .ok (.aload_n 0, 1) := by decide +kernel
theorem dX4_layDown_18 : decode cX4_layDown 18 = .ok (.aload_n 1, 1) := by decide +kernel
theorem dX4_layDown_19 : decode cX4_layDown 19 = .ok (.iconst 1, 1) := by decide +kernel
theorem dX4_layDown_20 : decode cX4_layDown 20 = .ok (.iaload, 1) := by decide +kernel
theorem dX4_layDown_21 : decode cX4_layDown 21 = .ok (.putfield 19, 3) := by decide +kernel
theorem dX4_layDown_24 : decode cX4_layDown 24 = .ok (.aload_n 0, 1) := by decide +kernel
theorem dX4_layDown_25 : decode cX4_layDown 25 = .ok (.aload_n 1, 1) := by decide +kernel
theorem dX4_layDown_26 : decode cX4_layDown 26 = .ok (.iconst 2, 1) := by decide +kernel
theorem dX4_layDown_27 : decode cX4_layDown 27 = .ok (.iaload, 1) := by decide +kernel
theorem dX4_layDown_28 : decode cX4_layDown 28 = .ok (.putfield 22, 3) := by decide +kernel
theorem dX4_layDown_31 : decode cX4_layDown 31 = .ok (.aload_n 0, 1) := by decide +kernel
theorem dX4_layDown_32 : decode cX4_layDown 32 = .ok (.aload_n 1, 1) := by decide +kernel
theorem dX4_layDown_33 : decode cX4_layDown 33 = .ok (.iconst 3, 1) := by decide +kernel
theorem dX4_layDown_34 : decode cX4_layDown 34 = .ok (.iaload, 1) := by decide +kernel
theorem dX4_layDown_35 : decode cX4_layDown 35 = .ok (.putfield 25, 3) := by decide +kernel
theorem dX4_layDown_38 : decode cX4_layDown 38 = .ok (.aload_n 0, 1) := by decide +kernel
theorem dX4_layDown_39 : decode cX4_layDown 39 = .ok (.aload_n 1, 1) := by decide +kernel
theorem dX4_layDown_40 : decode cX4_layDown 40 = .ok (.iconst 4, 1) := by decide +kernel
theorem dX4_layDown_41 : decode cX4_layDown 41 = .ok (.iaload, 1) := by decide +kernel
theorem dX4_layDown_42 : decode cX4_layDown 42 = .ok (.putfield 28, 3) := by decide +kernel
theorem dX4_layDown_45 : decode cX4_layDown 45 = .ok (.aload_n 0, 1) := by decide +kernel
theorem dX4_layDown_46 : decode cX4_layDown 46 = .ok (.aload_n 1, 1) := by decide +kernel
theorem dX4_layDown_47 : decode cX4_layDown 47 = .ok (.iconst 5, 1) := by decide +kernel
theorem dX4_layDown_48 : decode cX4_layDown 48 = .ok (.iaload, 1) := by decide +kernel
theorem dX4_layDown_49 : decode cX4_layDown 49 = .ok (.putfield 31, 3) := by decide +kernel
theorem dX4_layDown_52 : decode cX4_layDown 52 = .ok (.aload_n 0, 1) := by decide +kernel
theorem dX4_layDown_53 : decode cX4_layDown 53 = .ok (.aload_n 1, 1) := by decide +kernel
theorem dX4_layDown_54 : decode cX4_layDown 54 = .ok (.bipush 6, 2) := by decide +kernel
theorem dX4_layDown_56 : decode cX4_layDown 56 = .ok (.iaload, 1) := by decide +kernel
theorem dX4_layDown_57 : decode cX4_layDown 57 = .ok (.putfield 34, 3) := by decide +kernel
theorem dX4_layDown_60 : decode cX4_layDown 60 = .ok (.aload_n 0, 1) := by decide +kernel
theorem dX4_layDown_61 : decode cX4_layDown 61 = .ok (.iconst 0, 1) := by decide +kernel
theorem dX4_layDown_62 : decode cX4_layDown 62 = .ok (.putfield 37, 3) := by decide +kernel
theorem dX4_layDown_65 : decode cX4_layDown 65 = .ok (.aload_n 0, 1) := by decide +kernel
theorem dX4_layDown_66 : decode cX4_layDown 66 = .ok (.iconst 0, 1) := by decide +kernel
theorem dX4_layDown_67 : decode cX4_layDown 67 = .ok (.putfield 40, 3) := by decide +kernel
theorem dX4_layDown_70 : decode cX4_layDown 70 = .ok (.aload_n 0, 1) := by decide +kernel
theorem dX4_layDown_71 : decode cX4_layDown 71 = .ok (.iconst 0, 1) := by decide +kernel
theorem dX4_layDown_72 : decode cX4_layDown 72 = .ok (.putfield 43, 3) := by decide +kernel
theorem dX4_layDown_75 : decode cX4_layDown 75 = .ok (.aload_n 0, 1) := by decide +kernel
theorem dX4_layDown_76 : decode cX4_layDown 76 = .ok (.iconst 0, 1) := by decide +kernel
theorem dX4_layDown_77 : decode cX4_layDown 77 = .ok (.putfield 46, 3) := by decide +kernel
theorem dX4_layDown_80 : decode cX4_layDown 80 = .ok (.aload_n 0, 1) := by decide +kernel
theorem dX4_layDown_81 : decode cX4_layDown 81 = .ok (.iconst 0, 1) := by decide +kernel
theorem dX4_layDown_82 : decode cX4_layDown 82 = .ok (.putfield 49, 3) := by decide +kernel
theorem dX4_layDown_85 : decode cX4_layDown 85 = .ok (.return_, 1) := by decide +kernel
theorem dX4_copyFrom_0 : decode cX4_copyFrom 0 = .ok (.aload_n 0, 1) := by decide +kernel
theorem dX4_copyFrom_1 : decode cX4_copyFrom 1 = .ok (.aload_n 1, 1) := by decide +kernel
theorem dX4_copyFrom_2 : decode cX4_copyFrom 2 = .ok (.getfield 13, 3) := by decide +kernel
theorem dX4_copyFrom_5 : decode cX4_copyFrom 5 = .ok (.putfield 13, 3) := by decide +kernel
theorem dX4_copyFrom_8 : decode cX4_copyFrom 8 = .ok (.aload_n 0, 1) := by decide +kernel
theorem dX4_copyFrom_9 : decode cX4_copyFrom 9 = .ok (.aload_n 1, 1) := by decide +kernel
theorem dX4_copyFrom_10 : decode cX4_copyFrom 10 = .ok (.getfield 19, 3) := by decide +kernel
theorem dX4_copyFrom_13 : decode cX4_copyFrom 13 = .ok (.putfield 19, 3) := by decide +kernel
theorem dX4_copyFrom_16 : decode cX4_copyFrom 16 = .ok (.aload_n 0, 1) := by decide +kernel
theorem dX4_copyFrom_17 : decode cX4_copyFrom 17 = .ok (.aload_n 1, 1) := by decide +kernel
theorem dX4_copyFrom_18 : decode cX4_copyFrom 18 = .ok (.getfield 22, 3) := by decide +kernel
theorem dX4_copyFrom_21 : decode cX4_copyFrom 21 = .ok (.putfield 22, 3) := by decide +kernel
theorem dX4_copyFrom_24 : decode cX4_copyFrom 24 = .ok (.aload_n 0, 1) := by decide +kernel
theorem dX4_copyFrom_25 : decode cX4_copyFrom 25 = .ok (.aload_n 1, 1) := by decide +kernel
theorem dX4_copyFrom_26 : decode cX4_copyFrom 26 = .ok (.getfield 25, 3) := by decide +kernel
theorem dX4_copyFrom_29 : decode cX4_copyFrom 29 = .ok (.putfield 25, 3) := by decide +kernel
theorem dX4_copyFrom_32 : decode cX4_copyFrom 32 = .ok (.aload_n 0, 1) := by decide +kernel
theorem dX4_copyFrom_33 : decode cX4_copyFrom 33 = .ok (.aload_n 1, 1) := by decide +kernel
theorem dX4_copyFrom_34 : decode cX4_copyFrom 34 = .ok (.getfield 28, 3) := by decide +kernel
theorem dX4_copyFrom_37 : decode cX4_copyFrom 37 = .ok (.putfield 28, 3) := by decide +kernel
theorem dX4_copyFrom_40 : decode cX4_copyFrom 40 = .ok (.aload_n 0, 1) := by decide +kernel
theorem dX4_copyFrom_41 : decode cX4_copyFrom 41 = .ok (.aload_n 1, 1) := by decide +kernel
theorem dX4_copyFrom_42 : decode cX4_copyFrom 42 = .ok (.getfield 31, 3) := by decide +kernel
theorem dX4_copyFrom_45 : decode cX4_copyFrom 45 = .ok (.putfield 31, 3) := by decide +kernel
theorem dX4_copyFrom_48 : decode cX4_copyFrom 48 = .ok (.aload_n 0, 1) := by decide +kernel
theorem dX4_copyFrom_49 : decode cX4_copyFrom 49 = .ok (.aload_n 1, 1) := by decide +kernel
theorem dX4_copyFrom_50 : decode cX4_copyFrom 50 = .ok (.getfield 34, 3) := by decide +kernel
theorem dX4_copyFrom_53 : decode cX4_copyFrom 53 = .ok (.putfield 34, 3) := by decide +kernel
theorem dX4_copyFrom_56 : decode cX4_copyFrom 56 = .ok (.aload_n 0, 1) := by decide +kernel
theorem dX4_copyFrom_57 : decode cX4_copyFrom 57 = .ok (.aload_n 1, 1) := by decide +kernel
theorem dX4_copyFrom_58 : decode cX4_copyFrom 58 = .ok (.getfield 37, 3) := by decide +kernel
theorem dX4_copyFrom_61 : decode cX4_copyFrom 61 = .ok (.putfield 37, 3) := by decide +kernel
theorem dX4_copyFrom_64 : decode cX4_copyFrom 64 = .ok (.aload_n 0, 1) := by decide +kernel
theorem dX4_copyFrom_65 : decode cX4_copyFrom 65 = .ok (.aload_n 1, 1) := by decide +kernel
theorem dX4_copyFrom_66 : decode cX4_copyFrom 66 = .ok (.getfield 40, 3) := by decide +kernel
theorem dX4_copyFrom_69 : decode cX4_copyFrom 69 = .ok (.putfield 40, 3) := by decide +kernel
theorem dX4_copyFrom_72 : decode cX4_copyFrom 72 = .ok (.aload_n 0, 1) := by decide +kernel
theorem dX4_copyFrom_73 : decode cX4_copyFrom 73 = .ok (.aload_n 1, 1) := by decide +kernel
theorem dX4_copyFrom_74 : decode cX4_copyFrom 74 = .ok (.getfield 43, 3) := by decide +kernel
theorem dX4_copyFrom_77 : decode cX4_copyFrom 77 = .ok (.putfield 43, 3) := by decide +kernel
theorem dX4_copyFrom_80 : decode cX4_copyFrom 80 = .ok (.aload_n 0, 1) := by decide +kernel
theorem dX4_copyFrom_81 : decode cX4_copyFrom 81 = .ok (.aload_n 1, 1) := by decide +kernel
theorem dX4_copyFrom_82 : decode cX4_copyFrom 82 = .ok (.getfield 46, 3) := by decide +kernel
theorem dX4_copyFrom_85 : decode cX4_copyFrom 85 = .ok (.putfield 46, 3) := by decide +kernel
theorem dX4_copyFrom_88 : decode cX4_copyFrom 88 = .ok (.aload_n 0, 1) := by decide +kernel
theorem dX4_copyFrom_89 : decode cX4_copyFrom 89 = .ok (.aload_n 1, 1) := by decide +kernel
theorem dX4_copyFrom_90 : decode cX4_copyFrom 90 = .ok (.getfield 49, 3) := by decide +kernel
theorem dX4_copyFrom_93 : decode cX4_copyFrom 93 = .ok (.putfield 49, 3) := by decide +kernel
theorem dX4_copyFrom_96 : decode cX4_copyFrom 96 = .ok (.aload_n 0, 1) := by decide +kernel
theorem dX4_copyFrom_97 : decode cX4_copyFrom 97 = .ok (.aload_n 1, 1) := by decide +kernel
theorem dX4_copyFrom_98 : decode cX4_copyFrom 98 = .ok (.getfield 53, 3) := by decide +kernel
theorem dX4_copyFrom_101 : decode cX4_copyFrom 101 = .ok (.putfield 53, 3) := by decide +kernel
theorem dX4_copyFrom_104 : decode cX4_copyFrom 104 = .ok (.aload_n 0, 1) := by decide +kernel
theorem dX4_copyFrom_105 : decode cX4_copyFrom 105 = .ok (.aload_n 1, 1) := by decide +kernel
theorem dX4_copyFrom_106 : decode cX4_copyFrom 106 = .ok (.getfield 56, 3) := by decide +kernel
theorem dX4_copyFrom_109 : decode cX4_copyFrom 109 = .ok (.putfield 56, 3) := by decide +kernel
theorem dX4_copyFrom_112 : decode cX4_copyFrom 112 = .ok (.aload_n 0, 1) := by decide +kernel
theorem dX4_copyFrom_113 : decode cX4_copyFrom 113 = .ok (.aload_n 1, 1) := by decide +kernel
theorem dX4_copyFrom_114 : decode cX4_copyFrom 114 = .ok (.getfield 59, 3) := by decide +kernel
theorem dX4_copyFrom_117 : decode cX4_copyFrom 117 = .ok (.putfield 59, 3) := by decide +kernel
theorem dX4_copyFrom_120 : decode cX4_copyFrom 120 = .ok (.return_, 1) := by decide +kernel
theorem dX4_turned_0 : decode cX4_turned 0 = .ok (.sipush 1000, 3) := by decide +kernel
theorem dX4_turned_3 : decode cX4_turned 3 = .ok (.aload_n 0, 1) := by decide +kernel
theorem dX4_turned_4 : decode cX4_turned 4 = .ok (.getfield 37, 3) := by decide +kernel
theorem dX4_turned_7 : decode cX4_turned 7 = .ok (.aload_n 0, 1) := by decide +kernel
theorem dX4_turned_8 : decode cX4_turned 8 = .ok (.getfield 13, 3) := by decide +kernel
theorem dX4_turned_11 : decode cX4_turned 11 = .ok (.imul, 1) := by decide +kernel
theorem dX4_turned_12 : decode cX4_turned 12 = .ok (.iadd, 1) := by decide +kernel
theorem dX4_turned_13 : decode cX4_turned 13 = .ok (.ireturn, 1) := by decide +kernel
theorem dX4_off_0 : decode cX4_off 0 = .ok (.aload_n 0, 1) := by decide +kernel
theorem dX4_off_1 : decode cX4_off 1 = .ok (.getfield 59, 3) := by decide +kernel
theorem dX4_off_4 : decode cX4_off 4 = .ok (.aload_n 0, 1) := by decide +kernel
theorem dX4_off_5 : decode cX4_off 5 = .ok (.getfield 19, 3) := by decide +kernel
theorem dX4_off_8 : decode cX4_off 8 = .ok (.isub, 1) := by decide +kernel
theorem dX4_off_9 : decode cX4_off 9 = .ok (.invokestatic 62, 3) := by decide +kernel
theorem dX4_off_12 : decode cX4_off 12 = .ok (.ireturn, 1) := by decide +kernel
theorem dX4_judged_0 : decode cX4_judged 0 = .ok (.aload_n 0, 1) := by decide +kernel
theorem dX4_judged_1 : decode cX4_judged 1 = .ok (.getfield 59, 3) := by decide +kernel
theorem dX4_judged_4 : decode cX4_judged 4 = .ok (.aload_n 0, 1) := by decide +kernel
theorem dX4_judged_5 : decode cX4_judged 5 = .ok (.getfield 19, 3) := by decide +kernel
theorem dX4_judged_8 : decode cX4_judged 8 = .ok (.aload_n 0, 1) := by decide +kernel
theorem dX4_judged_9 : decode cX4_judged 9 = .ok (.getfield 22, 3) := by decide +kernel
theorem dX4_judged_12 : decode cX4_judged 12 = .ok (.isub, 1) := by decide +kernel
theorem dX4_judged_13 : decode cX4_judged 13 = .ok (.if_icmp .ge 5, 3) := by decide +kernel
theorem dX4_judged_16 : decode cX4_judged 16 = .ok (.iconst 1, 1) := by decide +kernel
theorem dX4_judged_17 : decode cX4_judged 17 = .ok (.ireturn, 1) := by decide +kernel
theorem dX4_judged_18 : decode cX4_judged 18 = .ok (.aload_n 0, 1) := by decide +kernel
theorem dX4_judged_19 : decode cX4_judged 19 = .ok (.getfield 59, 3) := by decide +kernel
theorem dX4_judged_22 : decode cX4_judged 22 = .ok (.aload_n 0, 1) := by decide +kernel
theorem dX4_judged_23 : decode cX4_judged 23 = .ok (.getfield 19, 3) := by decide +kernel
theorem dX4_judged_26 : decode cX4_judged 26 = .ok (.aload_n 0, 1) := by decide +kernel
theorem dX4_judged_27 : decode cX4_judged 27 = .ok (.getfield 22, 3) := by decide +kernel
theorem dX4_judged_30 : decode cX4_judged 30 = .ok (.iadd, 1) := by decide +kernel
theorem dX4_judged_31 : decode cX4_judged 31 = .ok (.if_icmp .le 7, 3) := by decide +kernel
theorem dX4_judged_34 : decode cX4_judged 34 = .ok (.iconst 2, 1) := by decide +kernel
theorem dX4_judged_35 : decode cX4_judged 35 = .ok (.goto 4, 3) := by decide +kernel
theorem dX4_judged_38 : decode cX4_judged 38 = .ok (.iconst 0, 1) := by decide +kernel
theorem dX4_judged_39 : decode cX4_judged 39 = .ok (.ireturn, 1) := by decide +kernel
set_option maxRecDepth 20000 in
theorem ggX4_wants_X4_judged : GoodIn wsX4_wants wsX4_judged := goodIn_r _ [7, 8, 9, 10, 11, 12, 13, 14, 15, 16, 17, 18, 19, 20, 21, 22, 23, 24, 25] (by decide +kernel) (by decide +kernel)
set_option maxRecDepth 20000 in
theorem gX4_wants_X4_judged : GoodIn wsX4_wants (wsV RX4 68 RX4 yX4_judged wsX4_judged) := goodIn_app (goodIn_of _ (by decide +kernel)) ggX4_wants_X4_judged
theorem dX4_wants_0 : decode cX4_wants 0 = .ok (.aload_n 0, 1) := by decide +kernel
theorem dX4_wants_1 : decode cX4_wants 1 = .ok (.invokevirtual 68, 3) := by decide +kernel
theorem dX4_wants_4 : decode cX4_wants 4 = .ok (.istore_n 1, 1) := by decide +kernel
theorem dX4_wants_5 : decode cX4_wants 5 = .ok (.iload_n 1, 1) := by decide +kernel
theorem dX4_wants_6 : decode cX4_wants 6 = .ok (.ifCond .eq 18, 3) := by decide +kernel
theorem dX4_wants_9 : decode cX4_wants 9 = .ok (.aload_n 0, 1) := by decide +kernel
theorem dX4_wants_10 : decode cX4_wants 10 = .ok (.getfield 53, 3) := by decide +kernel
theorem dX4_wants_13 : decode cX4_wants 13 = .ok (.ifCond .ge 13, 3) := by decide +kernel
theorem dX4_wants_16 : decode cX4_wants 16 = .ok (.aload_n 0, 1) := by decide +kernel
theorem dX4_wants_17 : decode cX4_wants 17 = .ok (.getfield 28, 3) := by decide +kernel
theorem dX4_wants_20 : decode cX4_wants 20 = .ok (.iconst 1, 1) := by decide +kernel
theorem dX4_wants_21 : decode cX4_wants 21 = .ok (.if_icmp .ne 5, 3) := by decide +kernel
theorem dX4_wants_24 : decode cX4_wants 24 = .ok (.iconst 0, 1) := by decide +kernel
theorem dX4_wants_25 : decode cX4_wants 25 = .ok (.ireturn, 1) := by decide +kernel
theorem dX4_wants_26 : decode cX4_wants 26 = .ok (.aload_n 0, 1) := by decide +kernel
theorem dX4_wants_27 : decode cX4_wants 27 = .ok (.getfield 53, 3) := by decide +kernel
theorem dX4_wants_30 : decode cX4_wants 30 = .ok (.ifCond .ge 15, 3) := by decide +kernel
theorem dX4_wants_33 : decode cX4_wants 33 = .ok (.aload_n 0, 1) := by decide +kernel
theorem dX4_wants_34 : decode cX4_wants 34 = .ok (.getfield 28, 3) := by decide +kernel
theorem dX4_wants_37 : decode cX4_wants 37 = .ok (.iconst 2, 1) := by decide +kernel
theorem dX4_wants_38 : decode cX4_wants 38 = .ok (.if_icmp .ne 7, 3) := by decide +kernel
theorem dX4_wants_41 : decode cX4_wants 41 = .ok (.iconst 1, 1) := by decide +kernel
theorem dX4_wants_42 : decode cX4_wants 42 = .ok (.goto 4, 3) := by decide +kernel
theorem dX4_wants_45 : decode cX4_wants 45 = .ok (.iconst 0, 1) := by decide +kernel
theorem dX4_wants_46 : decode cX4_wants 46 = .ok (.istore_n 2, 1) := by decide +kernel
theorem dX4_wants_47 : decode cX4_wants 47 = .ok (.iload_n 1, 1) := by decide +kernel
theorem dX4_wants_48 : decode cX4_wants 48 = .ok (.iconst 1, 1) := by decide +kernel
theorem dX4_wants_49 : decode cX4_wants 49 = .ok (.if_icmp .ne 7, 3) := by decide +kernel
theorem dX4_wants_52 : decode cX4_wants 52 = .ok (.iconst 1, 1) := by decide +kernel
theorem dX4_wants_53 : decode cX4_wants 53 = .ok (.goto 4, 3) := by decide +kernel
theorem dX4_wants_56 : decode cX4_wants 56 = .ok (.iconst 0, 1) := by decide +kernel
theorem dX4_wants_57 : decode cX4_wants 57 = .ok (.iload_n 2, 1) := by decide +kernel
theorem dX4_wants_58 : decode cX4_wants 58 = .ok (.if_icmp .eq 7, 3) := by decide +kernel
theorem dX4_wants_61 : decode cX4_wants 61 = .ok (.iconst 1, 1) := by decide +kernel
theorem dX4_wants_62 : decode cX4_wants 62 = .ok (.goto 4, 3) := by decide +kernel
theorem dX4_wants_65 : decode cX4_wants 65 = .ok (.iconst 2, 1) := by decide +kernel
theorem dX4_wants_66 : decode cX4_wants 66 = .ok (.ireturn, 1) := by decide +kernel
set_option maxRecDepth 20000 in
theorem ggX4_canAsItWants_X4_wants : GoodIn wsX4_canAsItWants wsX4_wants := goodIn_r _ [7, 8, 9, 10, 11, 12, 6, 13, 14, 15, 16, 17, 18, 19, 20, 21, 22, 23, 24, 25, 26, 27, 28, 29, 30, 31] (by decide +kernel) (by decide +kernel)
set_option maxRecDepth 20000 in
theorem gX4_canAsItWants_X4_wants : GoodIn wsX4_canAsItWants (wsV RX4 72 RX4 yX4_wants wsX4_wants) := goodIn_app (goodIn_of _ (by decide +kernel)) ggX4_canAsItWants_X4_wants
theorem dX4_canAsItWants_0 : decode cX4_canAsItWants 0 = .ok (.aload_n 0, 1) := by decide +kernel
theorem dX4_canAsItWants_1 : decode cX4_canAsItWants 1 = .ok (.getfield 49, 3) := by decide +kernel
theorem dX4_canAsItWants_4 : decode cX4_canAsItWants 4 = .ok (.ifCond .eq 5, 3) := by decide +kernel
theorem dX4_canAsItWants_7 : decode cX4_canAsItWants 7 = .ok (.iconst 0, 1) := by decide +kernel
theorem dX4_canAsItWants_8 : decode cX4_canAsItWants 8 = .ok (.ireturn, 1) := by decide +kernel
theorem dX4_canAsItWants_9 : decode cX4_canAsItWants 9 = .ok (.aload_n 0, 1) := by decide +kernel
theorem dX4_canAsItWants_10 : decode cX4_canAsItWants 10 = .ok (.invokevirtual 72, 3) := by decide +kernel
theorem dX4_canAsItWants_13 : decode cX4_canAsItWants 13 = .ok (.lookupswitch 56 #[(1, 27), (2, 41)], 27) := by decide +kernel
theorem dX4_canAsItWants_40 : decode cX4_canAsItWants 40 = .ok (.aload_n 0, 1) := by decide +kernel
theorem dX4_canAsItWants_41 : decode cX4_canAsItWants 41 = .ok (.getfield 37, 3) := by decide +kernel
theorem dX4_canAsItWants_44 : decode cX4_canAsItWants 44 = .ok (.iconst 5, 1) := by decide +kernel
theorem dX4_canAsItWants_45 : decode cX4_canAsItWants 45 = .ok (.if_icmp .ge 7, 3) := by decide +kernel
theorem dX4_canAsItWants_48 : decode cX4_canAsItWants 48 = .ok (.iconst 1, 1) := by decide +kernel
theorem dX4_canAsItWants_49 : decode cX4_canAsItWants 49 = .ok (.goto 4, 3) := by decide +kernel
theorem dX4_canAsItWants_52 : decode cX4_canAsItWants 52 = .ok (.iconst 0, 1) := by decide +kernel
theorem dX4_canAsItWants_53 : decode cX4_canAsItWants 53 = .ok (.ireturn, 1) := by decide +kernel
theorem dX4_canAsItWants_54 : decode cX4_canAsItWants 54 = .ok (.aload_n 0, 1) := by decide +kernel
theorem dX4_canAsItWants_55 : decode cX4_canAsItWants 55 = .ok (.getfield 37, 3) := by decide +kernel
theorem dX4_canAsItWants_58 : decode cX4_canAsItWants 58 = .ok (.bipush (-5), 2) := by decide +kernel
theorem dX4_canAsItWants_60 : decode cX4_canAsItWants 60 = .ok (.if_icmp .le 7, 3) := by decide +kernel
theorem dX4_canAsItWants_63 : decode cX4_canAsItWants 63 = .ok (.iconst 1, 1) := by decide +kernel
theorem dX4_canAsItWants_64 : decode cX4_canAsItWants 64 = .ok (.goto 4, 3) := by decide +kernel
theorem dX4_canAsItWants_67 : decode cX4_canAsItWants 67 = .ok (.iconst 0, 1) := by decide +kernel
theorem dX4_canAsItWants_68 : decode cX4_canAsItWants 68 = .ok (.ireturn, 1) := by decide +kernel
theorem dX4_canAsItWants_69 : decode cX4_canAsItWants 69 = .ok (.iconst 0, 1) := by decide +kernel
theorem dX4_canAsItWants_70 : decode cX4_canAsItWants 70 = .ok (.ireturn, 1) := by decide +kernel
set_option maxRecDepth 20000 in
theorem ggX4_countOn_X4_wants : GoodIn wsX4_countOn wsX4_wants := goodIn_r _ [7, 8, 9, 10, 11, 12, 6, 13, 14, 15, 16, 17, 18, 19, 20, 21, 22, 23, 24, 25, 26, 27, 28, 29, 30, 31] (by decide +kernel) (by decide +kernel)
set_option maxRecDepth 20000 in
theorem gX4_countOn_X4_wants : GoodIn wsX4_countOn (wsV RX4 72 RX4 yX4_wants wsX4_wants) := goodIn_app (goodIn_of _ (by decide +kernel)) ggX4_countOn_X4_wants
theorem dX4_countOn_0 : decode cX4_countOn 0 = .ok (.aload_n 0, 1) := by decide +kernel
theorem dX4_countOn_1 : decode cX4_countOn 1 = .ok (.invokevirtual 72, 3) := by decide +kernel
theorem dX4_countOn_4 : decode cX4_countOn 4 = .ok (.istore_n 1, 1) := by decide +kernel
theorem dX4_countOn_5 : decode cX4_countOn 5 = .ok (.iload_n 1, 1) := by decide +kernel
theorem dX4_countOn_6 : decode cX4_countOn 6 = .ok (.ifCond .ne 11, 3) := by decide +kernel
theorem dX4_countOn_9 : decode cX4_countOn 9 = .ok (.aload_n 0, 1) := by decide +kernel
theorem dX4_countOn_10 : decode cX4_countOn 10 = .ok (.iconst 0, 1) := by decide +kernel
theorem dX4_countOn_11 : decode cX4_countOn 11 = .ok (.putfield 40, 3) := by decide +kernel
theorem dX4_countOn_14 : decode cX4_countOn 14 = .ok (.goto 25, 3) := by decide +kernel
theorem dX4_countOn_17 : decode cX4_countOn 17 = .ok (.aload_n 0, 1) := by decide +kernel
theorem dX4_countOn_18 : decode cX4_countOn 18 = .ok (.iload_n 1, 1) := by decide +kernel
theorem dX4_countOn_19 : decode cX4_countOn 19 = .ok (.aload_n 0, 1) := by decide +kernel
theorem dX4_countOn_20 : decode cX4_countOn 20 = .ok (.getfield 43, 3) := by decide +kernel
theorem dX4_countOn_23 : decode cX4_countOn 23 = .ok (.if_icmp .ne 12, 3) := by decide +kernel
theorem dX4_countOn_26 : decode cX4_countOn 26 = .ok (.aload_n 0, 1) := by decide +kernel
theorem dX4_countOn_27 : decode cX4_countOn 27 = .ok (.getfield 40, 3) := by decide +kernel
theorem dX4_countOn_30 : decode cX4_countOn 30 = .ok (.iconst 1, 1) := by decide +kernel
theorem dX4_countOn_31 : decode cX4_countOn 31 = .ok (.iadd, 1) := by decide +kernel
theorem dX4_countOn_32 : decode cX4_countOn 32 = .ok (.goto 4, 3) := by decide +kernel
theorem dX4_countOn_35 : decode cX4_countOn 35 = .ok (.iconst 1, 1) := by decide +kernel
theorem dX4_countOn_36 : decode cX4_countOn 36 = .ok (.putfield 40, 3) := by decide +kernel
theorem dX4_countOn_39 : decode cX4_countOn 39 = .ok (.aload_n 0, 1) := by decide +kernel
theorem dX4_countOn_40 : decode cX4_countOn 40 = .ok (.iload_n 1, 1) := by decide +kernel
theorem dX4_countOn_41 : decode cX4_countOn 41 = .ok (.putfield 43, 3) := by decide +kernel
theorem dX4_countOn_44 : decode cX4_countOn 44 = .ok (.return_, 1) := by decide +kernel
theorem dX4_valueToTell_0 : decode cX4_valueToTell 0 = .ok (.iload_n 1, 1) := by decide +kernel
theorem dX4_valueToTell_1 : decode cX4_valueToTell 1 = .ok (.lookupswitch 45 #[(0, 27), (1, 36)], 27) := by decide +kernel
theorem dX4_valueToTell_28 : decode cX4_valueToTell 28 = .ok (.aload_n 0, 1) := by decide +kernel
theorem dX4_valueToTell_29 : decode cX4_valueToTell 29 = .ok (.getfield 31, 3) := by decide +kernel
theorem dX4_valueToTell_32 : decode cX4_valueToTell 32 = .ok (.sipush 1000, 3) := by decide +kernel
theorem dX4_valueToTell_35 : decode cX4_valueToTell 35 = .ok (.iadd, 1) := by decide +kernel
theorem dX4_valueToTell_36 : decode cX4_valueToTell 36 = .ok (.ireturn, 1) := by decide +kernel
theorem dX4_valueToTell_37 : decode cX4_valueToTell 37 = .ok (.aload_n 0, 1) := by decide +kernel
theorem dX4_valueToTell_38 : decode cX4_valueToTell 38 = .ok (.getfield 37, 3) := by decide +kernel
theorem dX4_valueToTell_41 : decode cX4_valueToTell 41 = .ok (.sipush 1000, 3) := by decide +kernel
theorem dX4_valueToTell_44 : decode cX4_valueToTell 44 = .ok (.iadd, 1) := by decide +kernel
theorem dX4_valueToTell_45 : decode cX4_valueToTell 45 = .ok (.ireturn, 1) := by decide +kernel
theorem dX4_valueToTell_46 : decode cX4_valueToTell 46 = .ok (.aload_n 0, 1) := by decide +kernel
theorem dX4_valueToTell_47 : decode cX4_valueToTell 47 = .ok (.getfield 25, 3) := by decide +kernel
theorem dX4_valueToTell_50 : decode cX4_valueToTell 50 = .ok (.ireturn, 1) := by decide +kernel
theorem dX4_takeTold_0 : decode cX4_takeTold 0 = .ok (.iload_n 1, 1) := by decide +kernel
theorem dX4_takeTold_1 : decode cX4_takeTold 1 = .ok (.lookupswitch 51 #[(0, 27), (1, 39)], 27) := by decide +kernel
theorem dX4_takeTold_28 : decode cX4_takeTold 28 = .ok (.aload_n 0, 1) := by decide +kernel
theorem dX4_takeTold_29 : decode cX4_takeTold 29 = .ok (.iload_n 2, 1) := by decide +kernel
theorem dX4_takeTold_30 : decode cX4_takeTold 30 = .ok (.sipush 1000, 3) := by decide +kernel
theorem dX4_takeTold_33 : decode cX4_takeTold 33 = .ok (.isub, 1) := by decide +kernel
theorem dX4_takeTold_34 : decode cX4_takeTold 34 = .ok (.putfield 31, 3) := by decide +kernel
theorem dX4_takeTold_37 : decode cX4_takeTold 37 = .ok (.goto 20, 3) := by decide +kernel
theorem dX4_takeTold_40 : decode cX4_takeTold 40 = .ok (.aload_n 0, 1) := by decide +kernel
theorem dX4_takeTold_41 : decode cX4_takeTold 41 = .ok (.iload_n 2, 1) := by decide +kernel
theorem dX4_takeTold_42 : decode cX4_takeTold 42 = .ok (.sipush 1000, 3) := by decide +kernel
theorem dX4_takeTold_45 : decode cX4_takeTold 45 = .ok (.isub, 1) := by decide +kernel
theorem dX4_takeTold_46 : decode cX4_takeTold 46 = .ok (.putfield 37, 3) := by decide +kernel
theorem dX4_takeTold_49 : decode cX4_takeTold 49 = .ok (.goto 8, 3) := by decide +kernel
theorem dX4_takeTold_52 : decode cX4_takeTold 52 = .ok (.aload_n 0, 1) := by decide +kernel
theorem dX4_takeTold_53 : decode cX4_takeTold 53 = .ok (.iload_n 2, 1) := by decide +kernel
theorem dX4_takeTold_54 : decode cX4_takeTold 54 = .ok (.putfield 25, 3) := by decide +kernel
theorem dX4_takeTold_57 : decode cX4_takeTold 57 = .ok (.return_, 1) := by decide +kernel
set_option maxRecDepth 20000 in
theorem ggX4_valueOf_X4_judged : GoodIn wsX4_valueOf wsX4_judged := goodIn_r _ [18, 12, 2, 3, 27, 28, 29, 30, 31, 32, 33, 34, 35, 36, 37, 38, 39, 40, 41] (by decide +kernel) (by decide +kernel)
set_option maxRecDepth 20000 in
theorem gX4_valueOf_X4_judged : GoodIn wsX4_valueOf (wsV RX4 68 RX4 yX4_judged wsX4_judged) := goodIn_app (goodIn_of _ (by decide +kernel)) ggX4_valueOf_X4_judged
set_option maxRecDepth 20000 in
theorem ggX4_valueOf_X4_wants : GoodIn wsX4_valueOf wsX4_wants := goodIn_r _ [22, 10, 5, 14, 15, 16, 17, 18, 12, 2, 3, 27, 28, 29, 30, 31, 32, 33, 34, 35, 36, 37, 38, 39, 40, 41] (by decide +kernel) (by decide +kernel)
set_option maxRecDepth 20000 in
theorem gX4_valueOf_X4_wants : GoodIn wsX4_valueOf (wsV RX4 72 RX4 yX4_wants wsX4_wants) := goodIn_app (goodIn_of _ (by decide +kernel)) ggX4_valueOf_X4_wants
set_option maxRecDepth 20000 in
theorem ggX4_valueOf_X4_canAsItWants : GoodIn wsX4_valueOf wsX4_canAsItWants := goodIn_r _ [26, 9, 8, 19, 20, 21, 17, 22, 10, 5, 14, 15, 16, 18, 12, 2, 3, 27, 28, 29, 30, 31, 32, 33, 34, 35, 36, 37, 38, 39, 40, 41] (by decide +kernel) (by decide +kernel)
set_option maxRecDepth 20000 in
theorem gX4_valueOf_X4_canAsItWants : GoodIn wsX4_valueOf (wsV RX4 75 RX4 yX4_canAsItWants wsX4_canAsItWants) := goodIn_app (goodIn_of _ (by decide +kernel)) ggX4_valueOf_X4_canAsItWants
theorem dX4_valueOf_0 : decode cX4_valueOf 0 = .ok (.iload_n 1, 1) := by decide +kernel
theorem dX4_valueOf_1 : decode cX4_valueOf 1 = .ok (.tableswitch 195 0 15 #[79, 84, 89, 94, 99, 104, 113, 118, 127, 140, 149, 158, 167, 172, 177, 182], 79) := by decide +kernel
theorem dX4_valueOf_80 : decode cX4_valueOf 80 = .ok (.aload_n 0, 1) := by decide +kernel
theorem dX4_valueOf_81 : decode cX4_valueOf 81 = .ok (.getfield 13, 3) := by decide +kernel
theorem dX4_valueOf_84 : decode cX4_valueOf 84 = .ok (.ireturn, 1) := by decide +kernel
theorem dX4_valueOf_85 : decode cX4_valueOf 85 = .ok (.aload_n 0, 1) := by decide +kernel
theorem dX4_valueOf_86 : decode cX4_valueOf 86 = .ok (.getfield 19, 3) := by decide +kernel
theorem dX4_valueOf_89 : decode cX4_valueOf 89 = .ok (.ireturn, 1) := by decide +kernel
theorem dX4_valueOf_90 : decode cX4_valueOf 90 = .ok (.aload_n 0, 1) := by decide +kernel
theorem dX4_valueOf_91 : decode cX4_valueOf 91 = .ok (.getfield 22, 3) := by decide +kernel
theorem dX4_valueOf_94 : decode cX4_valueOf 94 = .ok (.ireturn, 1) := by decide +kernel
theorem dX4_valueOf_95 : decode cX4_valueOf 95 = .ok (.aload_n 0, 1) := by decide +kernel
theorem dX4_valueOf_96 : decode cX4_valueOf 96 = .ok (.getfield 25, 3) := by decide +kernel
theorem dX4_valueOf_99 : decode cX4_valueOf 99 = .ok (.ireturn, 1) := by decide +kernel
theorem dX4_valueOf_100 : decode cX4_valueOf 100 = .ok (.aload_n 0, 1) := by decide +kernel
theorem dX4_valueOf_101 : decode cX4_valueOf 101 = .ok (.getfield 28, 3) := by decide +kernel
theorem dX4_valueOf_104 : decode cX4_valueOf 104 = .ok (.ireturn, 1) := by decide +kernel
theorem dX4_valueOf_105 : decode cX4_valueOf 105 = .ok (.aload_n 0, 1) := by decide +kernel
theorem dX4_valueOf_106 : decode cX4_valueOf 106 = .ok (.getfield 31, 3) := by decide +kernel
theorem dX4_valueOf_109 : decode cX4_valueOf 109 = .ok (.sipush 1000, 3) := by decide +kernel
theorem dX4_valueOf_112 : decode cX4_valueOf 112 = .ok (.iadd, 1) := by decide +kernel
theorem dX4_valueOf_113 : decode cX4_valueOf 113 = .ok (.ireturn, 1) := by decide +kernel
theorem dX4_valueOf_114 : decode cX4_valueOf 114 = .ok (.aload_n 0, 1) := by decide +kernel
theorem dX4_valueOf_115 : decode cX4_valueOf 115 = .ok (.getfield 34, 3) := by decide +kernel
theorem dX4_valueOf_118 : decode cX4_valueOf 118 = .ok (.ireturn, 1) := by decide +kernel
theorem dX4_valueOf_119 : decode cX4_valueOf 119 = .ok (.aload_n 0, 1) := by decide +kernel
theorem dX4_valueOf_120 : decode cX4_valueOf 120 = .ok (.getfield 37, 3) := by decide +kernel
theorem dX4_valueOf_123 : decode cX4_valueOf 123 = .ok (.sipush 1000, 3) := by decide +kernel
theorem dX4_valueOf_126 : decode cX4_valueOf 126 = .ok (.iadd, 1) := by decide +kernel
theorem dX4_valueOf_127 : decode cX4_valueOf 127 = .ok (.ireturn, 1) := by decide +kernel
theorem dX4_valueOf_128 : decode cX4_valueOf 128 = .ok (.aload_n 0, 1) := by decide +kernel
theorem dX4_valueOf_129 : decode cX4_valueOf 129 = .ok (.getfield 49, 3) := by decide +kernel
theorem dX4_valueOf_132 : decode cX4_valueOf 132 = .ok (.ifCond .eq 7, 3) := by decide +kernel
theorem dX4_valueOf_135 : decode cX4_valueOf 135 = .ok (.iconst 1, 1) := by decide +kernel
theorem dX4_valueOf_136 : decode cX4_valueOf 136 = .ok (.goto 4, 3) := by decide +kernel
theorem dX4_valueOf_139 : decode cX4_valueOf 139 = .ok (.iconst 0, 1) := by decide +kernel
theorem dX4_valueOf_140 : decode cX4_valueOf 140 = .ok (.ireturn, 1) := by decide +kernel
theorem dX4_valueOf_141 : decode cX4_valueOf 141 = .ok (.aload_n 0, 1) := by decide +kernel
theorem dX4_valueOf_142 : decode cX4_valueOf 142 = .ok (.getfield 53, 3) := by decide +kernel
theorem dX4_valueOf_145 : decode cX4_valueOf 145 = .ok (.sipush 1000, 3) := by decide +kernel
theorem dX4_valueOf_148 : decode cX4_valueOf 148 = .ok (.iadd, 1) := by decide +kernel
theorem dX4_valueOf_149 : decode cX4_valueOf 149 = .ok (.ireturn, 1) := by decide +kernel
theorem dX4_valueOf_150 : decode cX4_valueOf 150 = .ok (.aload_n 0, 1) := by decide +kernel
theorem dX4_valueOf_151 : decode cX4_valueOf 151 = .ok (.getfield 56, 3) := by decide +kernel
theorem dX4_valueOf_154 : decode cX4_valueOf 154 = .ok (.sipush 1000, 3) := by decide +kernel
theorem dX4_valueOf_157 : decode cX4_valueOf 157 = .ok (.iadd, 1) := by decide +kernel
theorem dX4_valueOf_158 : decode cX4_valueOf 158 = .ok (.ireturn, 1) := by decide +kernel
theorem dX4_valueOf_159 : decode cX4_valueOf 159 = .ok (.aload_n 0, 1) := by decide +kernel
theorem dX4_valueOf_160 : decode cX4_valueOf 160 = .ok (.getfield 59, 3) := by decide +kernel
theorem dX4_valueOf_163 : decode cX4_valueOf 163 = .ok (.sipush 1000, 3) := by decide +kernel
theorem dX4_valueOf_166 : decode cX4_valueOf 166 = .ok (.iadd, 1) := by decide +kernel
theorem dX4_valueOf_167 : decode cX4_valueOf 167 = .ok (.ireturn, 1) := by decide +kernel
theorem dX4_valueOf_168 : decode cX4_valueOf 168 = .ok (.aload_n 0, 1) := by decide +kernel
theorem dX4_valueOf_169 : decode cX4_valueOf 169 = .ok (.invokevirtual 68, 3) := by decide +kernel
theorem dX4_valueOf_172 : decode cX4_valueOf 172 = .ok (.ireturn, 1) := by decide +kernel
theorem dX4_valueOf_173 : decode cX4_valueOf 173 = .ok (.aload_n 0, 1) := by decide +kernel
theorem dX4_valueOf_174 : decode cX4_valueOf 174 = .ok (.invokevirtual 72, 3) := by decide +kernel
theorem dX4_valueOf_177 : decode cX4_valueOf 177 = .ok (.ireturn, 1) := by decide +kernel
theorem dX4_valueOf_178 : decode cX4_valueOf 178 = .ok (.aload_n 0, 1) := by decide +kernel
theorem dX4_valueOf_179 : decode cX4_valueOf 179 = .ok (.getfield 40, 3) := by decide +kernel
theorem dX4_valueOf_182 : decode cX4_valueOf 182 = .ok (.ireturn, 1) := by decide +kernel
theorem dX4_valueOf_183 : decode cX4_valueOf 183 = .ok (.aload_n 0, 1) := by decide +kernel
theorem dX4_valueOf_184 : decode cX4_valueOf 184 = .ok (.invokevirtual 75, 3) := by decide +kernel
theorem dX4_valueOf_187 : decode cX4_valueOf 187 = .ok (.ifCond .eq 7, 3) := by decide +kernel
theorem dX4_valueOf_190 : decode cX4_valueOf 190 = .ok (.iconst 1, 1) := by decide +kernel
theorem dX4_valueOf_191 : decode cX4_valueOf 191 = .ok (.goto 4, 3) := by decide +kernel
theorem dX4_valueOf_194 : decode cX4_valueOf 194 = .ok (.iconst 0, 1) := by decide +kernel
theorem dX4_valueOf_195 : decode cX4_valueOf 195 = .ok (.ireturn, 1) := by decide +kernel
theorem dX4_valueOf_196 : decode cX4_valueOf 196 = .ok (.iconst (-1), 1) := by decide +kernel
theorem dX4_valueOf_197 : decode cX4_valueOf 197 = .ok (.ireturn, 1) := by decide +kernel
theorem dX5_init_0 : decode cX5_init 0 = .ok (.aload_n 0, 1) := by decide +kernel
theorem dX5_init_1 : decode cX5_init 1 = .ok (.invokespecial 3, 3) := by decide +kernel
theorem dX5_init_4 : decode cX5_init 4 = .ok (.aload_n 0, 1) := by decide +kernel
theorem dX5_init_5 : decode cX5_init 5 = .ok (.bipush 20, 2) := by decide +kernel
theorem dX5_init_7 : decode cX5_init 7 = .ok (.newarray .int, 2) := by decide +kernel
theorem dX5_init_9 : decode cX5_init 9 = .ok (.putfield 9, 3) := by decide +kernel
theorem dX5_init_12 : decode cX5_init 12 = .ok (.aload_n 0, 1) := by decide +kernel
theorem dX5_init_13 : decode cX5_init 13 = .ok (.bipush 20, 2) := by decide +kernel
theorem dX5_init_15 : decode cX5_init 15 = .ok (.newarray .int, 2) := by decide +kernel
theorem dX5_init_17 : decode cX5_init 17 = .ok (.putfield 15, 3) := by decide +kernel
theorem dX5_init_20 : decode cX5_init 20 = .ok (.aload_n 0, 1) := by decide +kernel
theorem dX5_init_21 : decode cX5_init 21 = .ok (.bipush 20, 2) := by decide +kernel
theorem dX5_init_23 : decode cX5_init 23 = .ok (.newarray .int, 2) := by decide +kernel
theorem dX5_init_25 : decode cX5_init 25 = .ok (.putfield 18, 3) := by decide +kernel
theorem dX5_init_28 : decode cX5_init 28 = .ok (.return_, 1) := by decide +kernel
theorem dX5_empty_0 : decode cX5_empty 0 = .ok (.aload_n 0, 1) := by decide +kernel
theorem dX5_empty_1 : decode cX5_empty 1 = .ok (.iconst 0, 1) := by decide +kernel
theorem dX5_empty_2 : decode cX5_empty 2 = .ok (.putfield 21, 3) := by decide +kernel
theorem dX5_empty_5 : decode cX5_empty 5 = .ok (.aload_n 0, 1) := by decide +kernel
theorem dX5_empty_6 : decode cX5_empty 6 = .ok (.iconst 0, 1) := by decide +kernel
theorem dX5_empty_7 : decode cX5_empty 7 = .ok (.putfield 25, 3) := by decide +kernel
theorem dX5_empty_10 : decode cX5_empty 10 = .ok (.return_, 1) := by decide +kernel
theorem dX5_copyFrom_0 : decode cX5_copyFrom 0 = .ok (.aload_n 1, 1) := by decide +kernel
theorem dX5_copyFrom_1 : decode cX5_copyFrom 1 = .ok (.getfield 9, 3) := by decide +kernel
theorem dX5_copyFrom_4 : decode cX5_copyFrom 4 = .ok (.iconst 0, 1) := by decide +kernel
theorem dX5_copyFrom_5 : decode cX5_copyFrom 5 = .ok (.aload_n 0, 1) := by decide +kernel
theorem dX5_copyFrom_6 : decode cX5_copyFrom 6 = .ok (.getfield 9, 3) := by decide +kernel
theorem dX5_copyFrom_9 : decode cX5_copyFrom 9 = .ok (.iconst 0, 1) := by decide +kernel
theorem dX5_copyFrom_10 : decode cX5_copyFrom 10 = .ok (.bipush 20, 2) := by decide +kernel
theorem dX5_copyFrom_12 : decode cX5_copyFrom 12 = .ok (.invokestatic 28, 3) := by decide +kernel
theorem dX5_copyFrom_15 : decode cX5_copyFrom 15 = .ok (.aload_n 1, 1) := by decide +kernel
theorem dX5_copyFrom_16 : decode cX5_copyFrom 16 = .ok (.getfield 15, 3) := by decide +kernel
theorem dX5_copyFrom_19 : decode cX5_copyFrom 19 = .ok (.iconst 0, 1) := by decide +kernel
theorem dX5_copyFrom_20 : decode cX5_copyFrom 20 = .ok (.aload_n 0, 1) := by decide +kernel
theorem dX5_copyFrom_21 : decode cX5_copyFrom 21 = .ok (.getfield 15, 3) := by decide +kernel
theorem dX5_copyFrom_24 : decode cX5_copyFrom 24 = .ok (.iconst 0, 1) := by decide +kernel
theorem dX5_copyFrom_25 : decode cX5_copyFrom 25 = .ok (.bipush 20, 2) := by decide +kernel
theorem dX5_copyFrom_27 : decode cX5_copyFrom 27 = .ok (.invokestatic 28, 3) := by decide +kernel
theorem dX5_copyFrom_30 : decode cX5_copyFrom 30 = .ok (.aload_n 1, 1) := by decide +kernel
theorem dX5_copyFrom_31 : decode cX5_copyFrom 31 = .ok (.getfield 18, 3) := by decide +kernel
theorem dX5_copyFrom_34 : decode cX5_copyFrom 34 = .ok (.iconst 0, 1) := by decide +kernel
theorem dX5_copyFrom_35 : decode cX5_copyFrom 35 = .ok (.aload_n 0, 1) := by decide +kernel
theorem dX5_copyFrom_36 : decode cX5_copyFrom 36 = .ok (.getfield 18, 3) := by decide +kernel
theorem dX5_copyFrom_39 : decode cX5_copyFrom 39 = .ok (.iconst 0, 1) := by decide +kernel
theorem dX5_copyFrom_40 : decode cX5_copyFrom 40 = .ok (.bipush 20, 2) := by decide +kernel
theorem dX5_copyFrom_42 : decode cX5_copyFrom 42 = .ok (.invokestatic 28, 3) := by decide +kernel
theorem dX5_copyFrom_45 : decode cX5_copyFrom 45 = .ok (.aload_n 0, 1) := by decide +kernel
theorem dX5_copyFrom_46 : decode cX5_copyFrom 46 = .ok (.aload_n 1, 1) := by decide +kernel
theorem dX5_copyFrom_47 : decode cX5_copyFrom 47 = .ok (.getfield 21, 3) := by decide +kernel
theorem dX5_copyFrom_50 : decode cX5_copyFrom 50 = .ok (.putfield 21, 3) := by decide +kernel
theorem dX5_copyFrom_53 : decode cX5_copyFrom 53 = .ok (.aload_n 0, 1) := by decide +kernel
theorem dX5_copyFrom_54 : decode cX5_copyFrom 54 = .ok (.aload_n 1, 1) := by decide +kernel
theorem dX5_copyFrom_55 : decode cX5_copyFrom 55 = .ok (.getfield 25, 3) := by decide +kernel
theorem dX5_copyFrom_58 : decode cX5_copyFrom 58 = .ok (.putfield 25, 3) := by decide +kernel
theorem dX5_copyFrom_61 : decode cX5_copyFrom 61 = .ok (.return_, 1) := by decide +kernel
theorem dX5_add_0 : decode cX5_add 0 = .ok (.aload_n 0, 1) := by decide +kernel
theorem dX5_add_1 : decode cX5_add 1 = .ok (.getfield 21, 3) := by decide +kernel
theorem dX5_add_4 : decode cX5_add 4 = .ok (.bipush 20, 2) := by decide +kernel
theorem dX5_add_6 : decode cX5_add 6 = .ok (.irem, 1) := by decide +kernel
theorem dX5_add_7 : decode cX5_add 7 = .ok (.istore 4, 2) := by decide +kernel
theorem dX5_add_9 : decode cX5_add 9 = .ok (.aload_n 0, 1) := by decide +kernel
theorem dX5_add_10 : decode cX5_add 10 = .ok (.getfield 9, 3) := by decide +kernel
theorem dX5_add_13 : decode cX5_add 13 = .ok (.iload 4, 2) := by decide +kernel
theorem dX5_add_15 : decode cX5_add 15 = .ok (.iload_n 1, 1) := by decide +kernel
theorem dX5_add_16 : decode cX5_add 16 = .ok (.iastore, 1) := by decide +kernel
theorem dX5_add_17 : decode cX5_add 17 = .ok (.aload_n 0, 1) := by decide +kernel
theorem dX5_add_18 : decode cX5_add 18 = .ok (.getfield 15, 3) := by decide +kernel
theorem dX5_add_21 : decode cX5_add 21 = .ok (.iload 4, 2) := by decide +kernel
theorem dX5_add_23 : decode cX5_add 23 = .ok (.iload_n 2, 1) := by decide +kernel
theorem dX5_add_24 : decode cX5_add 24 = .ok (.iastore, 1) := by decide +kernel
theorem dX5_add_25 : decode cX5_add 25 = .ok (.aload_n 0, 1) := by decide +kernel
theorem dX5_add_26 : decode cX5_add 26 = .ok (.getfield 18, 3) := by decide +kernel
theorem dX5_add_29 : decode cX5_add 29 = .ok (.iload 4, 2) := by decide +kernel
theorem dX5_add_31 : decode cX5_add 31 = .ok (.iload_n 3, 1) := by decide +kernel
theorem dX5_add_32 : decode cX5_add 32 = .ok (.iastore, 1) := by decide +kernel
theorem dX5_add_33 : decode cX5_add 33 = .ok (.aload_n 0, 1) := by decide +kernel
theorem dX5_add_34 : decode cX5_add 34 = .ok (.dup, 1) := by decide +kernel
theorem dX5_add_35 : decode cX5_add 35 = .ok (.getfield 21, 3) := by decide +kernel
theorem dX5_add_38 : decode cX5_add 38 = .ok (.iconst 1, 1) := by decide +kernel
theorem dX5_add_39 : decode cX5_add 39 = .ok (.iadd, 1) := by decide +kernel
theorem dX5_add_40 : decode cX5_add 40 = .ok (.putfield 21, 3) := by decide +kernel
theorem dX5_add_43 : decode cX5_add 43 = .ok (.return_, 1) := by decide +kernel
theorem dX5_told_0 : decode cX5_told 0 = .ok (.aload_n 0, 1) := by decide +kernel
theorem dX5_told_1 : decode cX5_told 1 = .ok (.getfield 21, 3) := by decide +kernel
theorem dX5_told_4 : decode cX5_told 4 = .ok (.bipush 20, 2) := by decide +kernel
theorem dX5_told_6 : decode cX5_told 6 = .ok (.invokestatic 34, 3) := by decide +kernel
theorem dX5_told_9 : decode cX5_told 9 = .ok (.ireturn, 1) := by decide +kernel
set_option maxRecDepth 20000 in
theorem ggX5_valueOf_X5_told : GoodIn wsX5_valueOf wsX5_told := goodIn_r _ [9, 1, 10, 11, 12, 13, 14, 15, 16, 17, 18] (by decide +kernel) (by decide +kernel)
set_option maxRecDepth 20000 in
theorem gX5_valueOf_X5_told : GoodIn wsX5_valueOf (wsV RX5 40 RX5 yX5_told wsX5_told) := goodIn_app (goodIn_of _ (by decide +kernel)) ggX5_valueOf_X5_told
theorem dX5_valueOf_0 : decode cX5_valueOf 0 = .ok (.iload_n 1, 1) := by decide +kernel
theorem dX5_valueOf_1 : decode cX5_valueOf 1 = .ok (.ifCond .lt 11, 3) := by decide +kernel
theorem dX5_valueOf_4 : decode cX5_valueOf 4 = .ok (.iload_n 1, 1) := by decide +kernel
theorem dX5_valueOf_5 : decode cX5_valueOf 5 = .ok (.aload_n 0, 1) := by decide +kernel
theorem dX5_valueOf_6 : decode cX5_valueOf 6 = .ok (.invokevirtual 40, 3) := by decide +kernel
theorem dX5_valueOf_9 : decode cX5_valueOf 9 = .ok (.if_icmp .lt 6, 3) := by decide +kernel
theorem dX5_valueOf_12 : decode cX5_valueOf 12 = .ok (.bipush (-4), 2) := by decide +kernel
theorem dX5_valueOf_14 : decode cX5_valueOf 14 = .ok (.ireturn, 1) := by decide +kernel
theorem dX5_valueOf_15 : decode cX5_valueOf 15 = .ok (.aload_n 0, 1) := by decide +kernel
theorem dX5_valueOf_16 : decode cX5_valueOf 16 = .ok (.getfield 21, 3) := by decide +kernel
theorem dX5_valueOf_19 : decode cX5_valueOf 19 = .ok (.iconst 1, 1) := by decide +kernel
theorem dX5_valueOf_20 : decode cX5_valueOf 20 = .ok (.isub, 1) := by decide +kernel
theorem dX5_valueOf_21 : decode cX5_valueOf 21 = .ok (.iload_n 1, 1) := by decide +kernel
theorem dX5_valueOf_22 : decode cX5_valueOf 22 = .ok (.isub, 1) := by decide +kernel
theorem dX5_valueOf_23 : decode cX5_valueOf 23 = .ok (.bipush 20, 2) := by decide +kernel
theorem dX5_valueOf_25 : decode cX5_valueOf 25 = .ok (.irem, 1) := by decide +kernel
theorem dX5_valueOf_26 : decode cX5_valueOf 26 = .ok (.istore_n 3, 1) := by decide +kernel
theorem dX5_valueOf_27 : decode cX5_valueOf 27 = .ok (.iload_n 2, 1) := by decide +kernel
theorem dX5_valueOf_28 : decode cX5_valueOf 28 = .ok (.lookupswitch 42 #[(0, 28), (1, 35)], 28) := by decide +kernel
theorem dX5_valueOf_56 : decode cX5_valueOf 56 = .ok (.aload_n 0, 1) := by decide +kernel
theorem dX5_valueOf_57 : decode cX5_valueOf 57 = .ok (.getfield 9, 3) := by decide +kernel
theorem dX5_valueOf_60 : decode cX5_valueOf 60 = .ok (.iload_n 3, 1) := by decide +kernel
theorem dX5_valueOf_61 : decode cX5_valueOf 61 = .ok (.iaload, 1) := by decide +kernel
theorem dX5_valueOf_62 : decode cX5_valueOf 62 = .ok (.ireturn, 1) := by decide +kernel
theorem dX5_valueOf_63 : decode cX5_valueOf 63 = .ok (.aload_n 0, 1) := by decide +kernel
theorem dX5_valueOf_64 : decode cX5_valueOf 64 = .ok (.getfield 15, 3) := by decide +kernel
theorem dX5_valueOf_67 : decode cX5_valueOf 67 = .ok (.iload_n 3, 1) := by decide +kernel
theorem dX5_valueOf_68 : decode cX5_valueOf 68 = .ok (.iaload, 1) := by decide +kernel
theorem dX5_valueOf_69 : decode cX5_valueOf 69 = .ok (.ireturn, 1) := by decide +kernel
theorem dX5_valueOf_70 : decode cX5_valueOf 70 = .ok (.aload_n 0, 1) := by decide +kernel
theorem dX5_valueOf_71 : decode cX5_valueOf 71 = .ok (.getfield 18, 3) := by decide +kernel
theorem dX5_valueOf_74 : decode cX5_valueOf 74 = .ok (.iload_n 3, 1) := by decide +kernel
theorem dX5_valueOf_75 : decode cX5_valueOf 75 = .ok (.iaload, 1) := by decide +kernel
theorem dX5_valueOf_76 : decode cX5_valueOf 76 = .ok (.ireturn, 1) := by decide +kernel
set_option maxRecDepth 20000 in
theorem ggX5_unlikeTold_X5_told : GoodIn wsX5_unlikeTold wsX5_told := goodIn_r _ [7, 8, 9, 10, 11, 12, 20, 21, 22, 23, 24] (by decide +kernel) (by decide +kernel)
set_option maxRecDepth 20000 in
theorem gX5_unlikeTold_X5_told : GoodIn wsX5_unlikeTold (wsV RX5 40 RX5 yX5_told wsX5_told) := goodIn_app (goodIn_of _ (by decide +kernel)) ggX5_unlikeTold_X5_told
set_option maxRecDepth 20000 in
theorem ggX5_unlikeTold_J6_bitCount_0f7a4 : GoodIn wsX5_unlikeTold wsJ6_bitCount_0f7a4 := goodIn_r _ [16, 17, 18, 19] (by decide +kernel) (by decide +kernel)
set_option maxRecDepth 20000 in
theorem gX5_unlikeTold_J6_bitCount_0f7a4 : GoodIn wsX5_unlikeTold (va_wsS RX5 44 yJ6_bitCount_0f7a4 wsJ6_bitCount_0f7a4) := goodIn_app (goodIn_of _ (by decide +kernel)) ggX5_unlikeTold_J6_bitCount_0f7a4
theorem dX5_unlikeTold_0 : decode cX5_unlikeTold 0 = .ok (.iconst 0, 1) := by decide +kernel
theorem dX5_unlikeTold_1 : decode cX5_unlikeTold 1 = .ok (.istore_n 1, 1) := by decide +kernel
theorem dX5_unlikeTold_2 : decode cX5_unlikeTold 2 = .ok (.iconst 0, 1) := by decide +kernel
theorem dX5_unlikeTold_3 : decode cX5_unlikeTold 3 = .ok (.istore_n 2, 1) := by decide +kernel
theorem dX5_unlikeTold_4 : decode cX5_unlikeTold 4 = .ok (.iload_n 2, 1) := by decide +kernel
theorem dX5_unlikeTold_5 : decode cX5_unlikeTold 5 = .ok (.aload_n 0, 1) := by decide +kernel
theorem dX5_unlikeTold_6 : decode cX5_unlikeTold 6 = .ok (.invokevirtual 40, 3) := by decide +kernel
theorem dX5_unlikeTold_9 : decode cX5_unlikeTold 9 = .ok (.if_icmp .ge 31, 3) := by decide +kernel
theorem dX5_unlikeTold_12 : decode cX5_unlikeTold 12 = .ok (.iload_n 1, 1) := by decide +kernel
theorem dX5_unlikeTold_13 : decode cX5_unlikeTold 13 = .ok (.iconst 1, 1) := by decide +kernel
theorem dX5_unlikeTold_14 : decode cX5_unlikeTold 14 = .ok (.aload_n 0, 1) := by decide +kernel
theorem dX5_unlikeTold_15 : decode cX5_unlikeTold 15 = .ok (.getfield 15, 3) := by decide +kernel
theorem dX5_unlikeTold_18 : decode cX5_unlikeTold 18 = .ok (.iload_n 2, 1) := by decide +kernel
theorem dX5_unlikeTold_19 : decode cX5_unlikeTold 19 = .ok (.iaload, 1) := by decide +kernel
theorem dX5_unlikeTold_20 : decode cX5_unlikeTold 20 = .ok (.iconst 2, 1) := by decide +kernel
theorem dX5_unlikeTold_21 : decode cX5_unlikeTold 21 = .ok (.imul, 1) := by decide +kernel
theorem dX5_unlikeTold_22 : decode cX5_unlikeTold 22 = .ok (.aload_n 0, 1) := by decide +kernel
theorem dX5_unlikeTold_23 : decode cX5_unlikeTold 23 = .ok (.getfield 18, 3) := by decide +kernel
theorem dX5_unlikeTold_26 : decode cX5_unlikeTold 26 = .ok (.iload_n 2, 1) := by decide +kernel
theorem dX5_unlikeTold_27 : decode cX5_unlikeTold 27 = .ok (.iaload, 1) := by decide +kernel
theorem dX5_unlikeTold_28 : decode cX5_unlikeTold 28 = .ok (.iadd, 1) := by decide +kernel
theorem dX5_unlikeTold_29 : decode cX5_unlikeTold 29 = .ok (.iconst 1, 1) := by decide +kernel
theorem dX5_unlikeTold_30 : decode cX5_unlikeTold 30 = .ok (.isub, 1) := by decide +kernel
theorem dX5_unlikeTold_31 : decode cX5_unlikeTold 31 = .ok (.ishl, 1) := by decide +kernel
theorem dX5_unlikeTold_32 : decode cX5_unlikeTold 32 = .ok (.ior, 1) := by decide +kernel
theorem dX5_unlikeTold_33 : decode cX5_unlikeTold 33 = .ok (.istore_n 1, 1) := by decide +kernel
theorem dX5_unlikeTold_34 : decode cX5_unlikeTold 34 = .ok (.iinc 2 1, 3) := by decide +kernel
theorem dX5_unlikeTold_37 : decode cX5_unlikeTold 37 = .ok (.goto (-33), 3) := by decide +kernel
theorem dX5_unlikeTold_40 : decode cX5_unlikeTold 40 = .ok (.iload_n 1, 1) := by decide +kernel
theorem dX5_unlikeTold_41 : decode cX5_unlikeTold 41 = .ok (.invokestatic 44, 3) := by decide +kernel
theorem dX5_unlikeTold_44 : decode cX5_unlikeTold 44 = .ok (.ireturn, 1) := by decide +kernel
theorem dX6_init_0 : decode cX6_init 0 = .ok (.aload_n 0, 1) := by decide +kernel
theorem dX6_init_1 : decode cX6_init 1 = .ok (.invokespecial 3, 3) := by decide +kernel
theorem dX6_init_4 : decode cX6_init 4 = .ok (.aload_n 0, 1) := by decide +kernel
theorem dX6_init_5 : decode cX6_init 5 = .ok (.sipush 200, 3) := by decide +kernel
theorem dX6_init_8 : decode cX6_init 8 = .ok (.newarray .int, 2) := by decide +kernel
theorem dX6_init_10 : decode cX6_init 10 = .ok (.putfield 9, 3) := by decide +kernel
theorem dX6_init_13 : decode cX6_init 13 = .ok (.aload_n 0, 1) := by decide +kernel
theorem dX6_init_14 : decode cX6_init 14 = .ok (.getstatic 15, 3) := by decide +kernel
theorem dX6_init_17 : decode cX6_init 17 = .ok (.arraylength, 1) := by decide +kernel
theorem dX6_init_18 : decode cX6_init 18 = .ok (.newarray .int, 2) := by decide +kernel
theorem dX6_init_20 : decode cX6_init 20 = .ok (.putfield 18, 3) := by decide +kernel
theorem dX6_init_23 : decode cX6_init 23 = .ok (.return_, 1) := by decide +kernel
theorem dX6_append_0 : decode cX6_append 0 = .ok (.aload_n 0, 1) := by decide +kernel
theorem dX6_append_1 : decode cX6_append 1 = .ok (.getfield 21, 3) := by decide +kernel
theorem dX6_append_4 : decode cX6_append 4 = .ok (.sipush 200, 3) := by decide +kernel
theorem dX6_append_7 : decode cX6_append 7 = .ok (.if_icmp .lt 5, 3) := by decide +kernel
theorem dX6_append_10 : decode cX6_append 10 = .ok (.iconst 0, 1) := by decide +kernel
theorem dX6_append_11 : decode cX6_append 11 = .ok (.ireturn, 1) := by decide +kernel
theorem dX6_append_12 : decode cX6_append 12 = .ok (.aload_n 0, 1) := by decide +kernel
theorem dX6_append_13 : decode cX6_append 13 = .ok (.getfield 9, 3) := by decide +kernel
theorem dX6_append_16 : decode cX6_append 16 = .ok (.aload_n 0, 1) := by decide +kernel
theorem dX6_append_17 : decode cX6_append 17 = .ok (.getfield 21, 3) := by decide +kernel
theorem dX6_append_20 : decode cX6_append 20 = .ok (.iload_n 1, 1) := by decide +kernel
theorem dX6_append_21 : decode cX6_append 21 = .ok (.iastore, 1) := by decide +kernel
theorem dX6_append_22 : decode cX6_append 22 = .ok (.aload_n 0, 1) := by decide +kernel
theorem dX6_append_23 : decode cX6_append 23 = .ok (.dup, 1) := by decide +kernel
theorem dX6_append_24 : decode cX6_append 24 = .ok (.getfield 21, 3) := by decide +kernel
theorem dX6_append_27 : decode cX6_append 27 = .ok (.iconst 1, 1) := by decide +kernel
theorem dX6_append_28 : decode cX6_append 28 = .ok (.iadd, 1) := by decide +kernel
theorem dX6_append_29 : decode cX6_append 29 = .ok (.putfield 21, 3) := by decide +kernel
theorem dX6_append_32 : decode cX6_append 32 = .ok (.iconst 1, 1) := by decide +kernel
theorem dX6_append_33 : decode cX6_append 33 = .ok (.ireturn, 1) := by decide +kernel
set_option maxRecDepth 20000 in
theorem ggX6_readInto_X1_empty : GoodIn wsX6_readInto wsX1_empty := goodIn_r _ [7, 8, 9, 10, 11, 12, 13, 14, 15, 16, 17, 18, 95, 96, 97, 98, 99, 100, 101, 102, 103, 104, 105] (by decide +kernel) (by decide +kernel)
set_option maxRecDepth 20000 in
theorem gX6_readInto_X1_empty : GoodIn wsX6_readInto (wsV RX6 25 RX1 yX1_empty wsX1_empty) := goodIn_app (goodIn_of _ (by decide +kernel)) ggX6_readInto_X1_empty
set_option maxRecDepth 20000 in
theorem ggX6_readInto_X6_readItem : GoodIn wsX6_readInto wsX6_readItem := goodIn_r _ [23, 24, 25, 26, 22, 27, 1, 2, 28, 29, 30, 31, 32, 33, 34, 35, 36, 37, 38, 39, 40, 41, 42, 43, 44, 45, 46, 47, 48, 49, 6, 50, 8, 51, 52, 53, 54, 55, 56, 57, 58, 59, 60, 61, 62, 63, 64, 65, 66, 67, 68, 91, 92, 93, 94, 95, 96, 97, 98, 99, 100, 106, 107, 108, 109, 110, 111, 112, 113, 114, 115, 116, 117, 118, 119, 120] (by decide +kernel) (by decide +kernel)
set_option maxRecDepth 20000 in
theorem gX6_readInto_X6_readItem : GoodIn wsX6_readInto (wsV RX6 33 RX6 yX6_readItem wsX6_readItem) := goodIn_app (goodIn_of _ (by decide +kernel)) ggX6_readInto_X6_readItem
set_option maxRecDepth 20000 in
theorem ggX6_readInto_X1_reckon : GoodIn wsX6_readInto wsX1_reckon := goodIn_r _ [72, 8, 51, 73, 74, 9, 75, 76, 77, 78, 79, 55, 80, 64, 57, 81, 82, 83, 84, 85, 86, 6, 87, 88, 89, 90, 95, 96, 97, 98, 99, 100, 106, 107, 108, 109, 110, 111, 112, 113, 114, 115, 116, 117, 118, 119, 120] (by decide +kernel) (by decide +kernel)
set_option maxRecDepth 20000 in
theorem gX6_readInto_X1_reckon : GoodIn wsX6_readInto (wsV RX6 37 RX1 yX1_reckon wsX1_reckon) := goodIn_app (goodIn_of _ (by decide +kernel)) ggX6_readInto_X1_reckon
theorem dX6_readInto_0 : decode cX6_readInto 0 = .ok (.aload_n 1, 1) := by decide +kernel
theorem dX6_readInto_1 : decode cX6_readInto 1 = .ok (.invokevirtual 25, 3) := by decide +kernel
theorem dX6_readInto_4 : decode cX6_readInto 4 = .ok (.aload_n 0, 1) := by decide +kernel
theorem dX6_readInto_5 : decode cX6_readInto 5 = .ok (.iconst 0, 1) := by decide +kernel
theorem dX6_readInto_6 : decode cX6_readInto 6 = .ok (.putfield 30, 3) := by decide +kernel
theorem dX6_readInto_9 : decode cX6_readInto 9 = .ok (.iconst 0, 1) := by decide +kernel
theorem dX6_readInto_10 : decode cX6_readInto 10 = .ok (.istore_n 2, 1) := by decide +kernel
theorem dX6_readInto_11 : decode cX6_readInto 11 = .ok (.iload_n 2, 1) := by decide +kernel
theorem dX6_readInto_12 : decode cX6_readInto 12 = .ok (.sipush 200, 3) := by decide +kernel
theorem dX6_readInto_15 : decode cX6_readInto 15 = .ok (.if_icmp .ge 35, 3) := by decide +kernel
theorem dX6_readInto_18 : decode cX6_readInto 18 = .ok (.aload_n 0, 1) := by decide +kernel
theorem dX6_readInto_19 : decode cX6_readInto 19 = .ok (.getfield 30, 3) := by decide +kernel
theorem dX6_readInto_22 : decode cX6_readInto 22 = .ok (.aload_n 0, 1) := by decide +kernel
theorem dX6_readInto_23 : decode cX6_readInto 23 = .ok (.getfield 21, 3) := by decide +kernel
theorem dX6_readInto_26 : decode cX6_readInto 26 = .ok (.if_icmp .ge 24, 3) := by decide +kernel
theorem dX6_readInto_29 : decode cX6_readInto 29 = .ok (.aload_n 0, 1) := by decide +kernel
theorem dX6_readInto_30 : decode cX6_readInto 30 = .ok (.getfield 30, 3) := by decide +kernel
theorem dX6_readInto_33 : decode cX6_readInto 33 = .ok (.istore_n 3, 1) := by decide +kernel
theorem dX6_readInto_34 : decode cX6_readInto 34 = .ok (.aload_n 0, 1) := by decide +kernel
theorem dX6_readInto_35 : decode cX6_readInto 35 = .ok (.aload_n 1, 1) := by decide +kernel
theorem dX6_readInto_36 : decode cX6_readInto 36 = .ok (.invokevirtual 33, 3) := by decide +kernel
theorem dX6_readInto_39 : decode cX6_readInto 39 = .ok (.ifCond .ne 5, 3) := by decide +kernel
theorem dX6_readInto_42 : decode cX6_readInto 42 = .ok (.iload_n 3, 1) := by decide +kernel
theorem dX6_readInto_43 : decode cX6_readInto 43 = .ok (.ireturn, 1) := by decide +kernel
theorem dX6_readInto_44 : decode cX6_readInto 44 = .ok (.iinc 2 1, 3) := by decide +kernel
theorem dX6_readInto_47 : decode cX6_readInto 47 = .ok (.goto (-36), 3) := by decide +kernel
theorem dX6_readInto_50 : decode cX6_readInto 50 = .ok (.aload_n 1, 1) := by decide +kernel
theorem dX6_readInto_51 : decode cX6_readInto 51 = .ok (.invokevirtual 37, 3) := by decide +kernel
theorem dX6_readInto_54 : decode cX6_readInto 54 = .ok (.bipush (-4), 2) := by decide +kernel
theorem dX6_readInto_56 : decode cX6_readInto 56 = .ok (.ireturn, 1) := by decide +kernel
set_option maxRecDepth 20000 in
theorem ggX6_readItem_X6_take : GoodIn wsX6_readItem wsX6_take := goodIn_r _ [5, 6, 7, 8, 51, 52, 53, 54] (by decide +kernel) (by decide +kernel)
set_option maxRecDepth 20000 in
theorem gX6_readItem_X6_take : GoodIn wsX6_readItem (wsV RX6 40 RX6 yX6_take wsX6_take) := goodIn_app (goodIn_of _ (by decide +kernel)) ggX6_readItem_X6_take
set_option maxRecDepth 20000 in
theorem ggX6_readItem_X6_readSource : GoodIn wsX6_readItem wsX6_readSource := goodIn_r _ [12, 13, 14, 15, 16, 4, 17, 8, 6, 1, 2, 3, 5, 7, 18, 19, 20, 21, 55, 56, 57, 58, 59, 60, 51, 52, 53, 54] (by decide +kernel) (by decide +kernel)
set_option maxRecDepth 20000 in
theorem gX6_readItem_X6_readSource : GoodIn wsX6_readItem (wsV RX6 44 RX6 yX6_readSource wsX6_readSource) := goodIn_app (goodIn_of _ (by decide +kernel)) ggX6_readItem_X6_readSource
set_option maxRecDepth 20000 in
theorem ggX6_readItem_X6_readStage : GoodIn wsX6_readItem wsX6_readStage := goodIn_r _ [25, 26, 14, 15, 16, 4, 17, 8, 6, 1, 2, 3, 5, 7, 18, 19, 20, 21, 27, 28, 29, 30, 31, 32, 33, 34, 35, 36, 37, 38, 39, 40, 41, 42, 43, 44, 45, 46, 47, 48, 49, 50, 51, 52, 53, 54, 55, 56, 57, 58, 59, 60, 61, 62, 63, 64, 65, 66, 67, 68, 69, 70, 71, 72, 73, 74, 75] (by decide +kernel) (by decide +kernel)
set_option maxRecDepth 20000 in
theorem gX6_readItem_X6_readStage : GoodIn wsX6_readItem (wsV RX6 47 RX6 yX6_readStage wsX6_readStage) := goodIn_app (goodIn_of _ (by decide +kernel)) ggX6_readItem_X6_readStage
theorem dX6_readItem_0 : decode cX6_readItem 0 = .ok (.aload_n 0, 1) := by decide +kernel
theorem dX6_readItem_1 : decode cX6_readItem 1 = .ok (.bipush 118, 2) := by decide +kernel
theorem dX6_readItem_3 : decode cX6_readItem 3 = .ok (.invokevirtual 40, 3) := by decide +kernel
theorem dX6_readItem_6 : decode cX6_readItem 6 = .ok (.ifCond .eq 9, 3) := by decide +kernel
theorem dX6_readItem_9 : decode cX6_readItem 9 = .ok (.aload_n 0, 1) := by decide +kernel
theorem dX6_readItem_10 : decode cX6_readItem 10 = .ok (.aload_n 1, 1) := by decide +kernel
theorem dX6_readItem_11 : decode cX6_readItem 11 = .ok (.invokevirtual 44, 3) := by decide +kernel
theorem dX6_readItem_14 : decode cX6_readItem 14 = .ok (.ireturn, 1) := by decide +kernel
theorem dX6_readItem_15 : decode cX6_readItem 15 = .ok (.aload_n 0, 1) := by decide +kernel
theorem dX6_readItem_16 : decode cX6_readItem 16 = .ok (.bipush 115, 2) := by decide +kernel
theorem dX6_readItem_18 : decode cX6_readItem 18 = .ok (.invokevirtual 40, 3) := by decide +kernel
theorem dX6_readItem_21 : decode cX6_readItem 21 = .ok (.ifCond .eq 15, 3) := by decide +kernel
theorem dX6_readItem_24 : decode cX6_readItem 24 = .ok (.aload_n 0, 1) := by decide +kernel
theorem dX6_readItem_25 : decode cX6_readItem 25 = .ok (.aload_n 1, 1) := by decide +kernel
theorem dX6_readItem_26 : decode cX6_readItem 26 = .ok (.invokevirtual 47, 3) := by decide +kernel
theorem dX6_readItem_29 : decode cX6_readItem 29 = .ok (.ifCond .eq 7, 3) := by decide +kernel
theorem dX6_readItem_32 : decode cX6_readItem 32 = .ok (.iconst 1, 1) := by decide +kernel
theorem dX6_readItem_33 : decode cX6_readItem 33 = .ok (.goto 4, 3) := by decide +kernel
theorem dX6_readItem_36 : decode cX6_readItem 36 = .ok (.iconst 0, 1) := by decide +kernel
theorem dX6_readItem_37 : decode cX6_readItem 37 = .ok (.ireturn, 1) := by decide +kernel
set_option maxRecDepth 20000 in
theorem ggX6_readSource_X6_readNumber : GoodIn wsX6_readSource wsX6_readNumber := goodIn_r _ [6, 7, 8, 9, 10, 11, 5, 12, 13, 14, 15, 16, 17, 24, 25, 26, 27] (by decide +kernel) (by decide +kernel)
set_option maxRecDepth 20000 in
theorem gX6_readSource_X6_readNumber : GoodIn wsX6_readSource (wsV RX6 50 RX6 yX6_readNumber wsX6_readNumber) := goodIn_app (goodIn_of _ (by decide +kernel)) ggX6_readSource_X6_readNumber
set_option maxRecDepth 20000 in
theorem ggX6_readSource_X6_take : GoodIn wsX6_readSource wsX6_take := goodIn_r _ [12, 8, 13, 7, 24, 25, 26, 27] (by decide +kernel) (by decide +kernel)
set_option maxRecDepth 20000 in
theorem gX6_readSource_X6_take : GoodIn wsX6_readSource (wsV RX6 40 RX6 yX6_take wsX6_take) := goodIn_app (goodIn_of _ (by decide +kernel)) ggX6_readSource_X6_take
theorem dX6_readSource_0 : decode cX6_readSource 0 = .ok (.aload_n 0, 1) := by decide +kernel
theorem dX6_readSource_1 : decode cX6_readSource 1 = .ok (.sipush 800, 3) := by decide +kernel
theorem dX6_readSource_4 : decode cX6_readSource 4 = .ok (.sipush 1200, 3) := by decide +kernel
theorem dX6_readSource_7 : decode cX6_readSource 7 = .ok (.invokevirtual 50, 3) := by decide +kernel
theorem dX6_readSource_10 : decode cX6_readSource 10 = .ok (.istore_n 2, 1) := by decide +kernel
theorem dX6_readSource_11 : decode cX6_readSource 11 = .ok (.iload_n 2, 1) := by decide +kernel
theorem dX6_readSource_12 : decode cX6_readSource 12 = .ok (.sipush 10000, 3) := by decide +kernel
theorem dX6_readSource_15 : decode cX6_readSource 15 = .ok (.if_icmp .eq 12, 3) := by decide +kernel
theorem dX6_readSource_18 : decode cX6_readSource 18 = .ok (.aload_n 0, 1) := by decide +kernel
theorem dX6_readSource_19 : decode cX6_readSource 19 = .ok (.bipush 59, 2) := by decide +kernel
theorem dX6_readSource_21 : decode cX6_readSource 21 = .ok (.invokevirtual 40, 3) := by decide +kernel
theorem dX6_readSource_24 : decode cX6_readSource 24 = .ok (.ifCond .ne 5, 3) := by decide +kernel
theorem dX6_readSource_27 : decode cX6_readSource 27 = .ok (.iconst 0, 1) := by decide +kernel
theorem dX6_readSource_28 : decode cX6_readSource 28 = .ok (.ireturn, 1) := by decide +kernel
theorem dX6_readSource_29 : decode cX6_readSource 29 = .ok (.aload_n 1, 1) := by decide +kernel
theorem dX6_readSource_30 : decode cX6_readSource 30 = .ok (.iload_n 2, 1) := by decide +kernel
theorem dX6_readSource_31 : decode cX6_readSource 31 = .ok (.putfield 54, 3) := by decide +kernel
theorem dX6_readSource_34 : decode cX6_readSource 34 = .ok (.iconst 1, 1) := by decide +kernel
theorem dX6_readSource_35 : decode cX6_readSource 35 = .ok (.ireturn, 1) := by decide +kernel
set_option maxRecDepth 20000 in
theorem ggX6_readStage_X6_readNumber : GoodIn wsX6_readStage wsX6_readNumber := goodIn_r _ [6, 7, 8, 9, 10, 11, 5, 12, 13, 14, 15, 16, 17, 42, 43, 44, 45] (by decide +kernel) (by decide +kernel)
set_option maxRecDepth 20000 in
theorem gX6_readStage_X6_readNumber : GoodIn wsX6_readStage (wsV RX6 50 RX6 yX6_readNumber wsX6_readNumber) := goodIn_app (goodIn_of _ (by decide +kernel)) ggX6_readStage_X6_readNumber
set_option maxRecDepth 20000 in
theorem ggX6_readStage_X6_take : GoodIn wsX6_readStage wsX6_take := goodIn_r _ [12, 8, 13, 7, 42, 43, 44, 45] (by decide +kernel) (by decide +kernel)
set_option maxRecDepth 20000 in
theorem gX6_readStage_X6_take : GoodIn wsX6_readStage (wsV RX6 40 RX6 yX6_take wsX6_take) := goodIn_app (goodIn_of _ (by decide +kernel)) ggX6_readStage_X6_take
set_option maxRecDepth 20000 in
theorem ggX6_readStage_X1_addStage : GoodIn wsX6_readStage wsX1_addStage := goodIn_r _ [22, 23, 24, 25, 26, 27, 28, 29, 30, 31, 32, 33, 34, 35, 36, 37, 38, 39, 40, 41, 46, 47, 48, 49, 50, 51, 52, 53, 54, 55, 56, 57, 58, 59, 60, 61, 62, 63, 64, 65, 66] (by decide +kernel) (by decide +kernel)
set_option maxRecDepth 20000 in
theorem gX6_readStage_X1_addStage : GoodIn wsX6_readStage (wsV RX6 60 RX1 yX1_addStage wsX1_addStage) := goodIn_app (goodIn_of _ (by decide +kernel)) ggX6_readStage_X1_addStage
theorem dX6_readStage_0 : decode cX6_readStage 0 = .ok (.aload_n 0, 1) := by decide +kernel
theorem dX6_readStage_1 : decode cX6_readStage 1 = .ok (.getfield 18, 3) := by decide +kernel
theorem dX6_readStage_4 : decode cX6_readStage 4 = .ok (.arraylength, 1) := by decide +kernel
theorem dX6_readStage_5 : decode cX6_readStage 5 = .ok (.iconst 1, 1) := by decide +kernel
theorem dX6_readStage_6 : decode cX6_readStage 6 = .ok (.isub, 1) := by decide +kernel
theorem dX6_readStage_7 : decode cX6_readStage 7 = .ok (.istore_n 2, 1) := by decide +kernel
theorem dX6_readStage_8 : decode cX6_readStage 8 = .ok (.iconst 0, 1) := by decide +kernel
theorem dX6_readStage_9 : decode cX6_readStage 9 = .ok (.istore_n 3, 1) := by decide +kernel
theorem dX6_readStage_10 : decode cX6_readStage 10 = .ok (.iload_n 3, 1) := by decide +kernel
theorem dX6_readStage_11 : decode cX6_readStage 11 = .ok (.iload_n 2, 1) := by decide +kernel
theorem dX6_readStage_12 : decode cX6_readStage 12 = .ok (.if_icmp .gt 62, 3) := by decide +kernel
theorem dX6_readStage_15 : decode cX6_readStage 15 = .ok (.aload_n 0, 1) := by decide +kernel
theorem dX6_readStage_16 : decode cX6_readStage 16 = .ok (.getfield 18, 3) := by decide +kernel
theorem dX6_readStage_19 : decode cX6_readStage 19 = .ok (.iload_n 3, 1) := by decide +kernel
theorem dX6_readStage_20 : decode cX6_readStage 20 = .ok (.aload_n 0, 1) := by decide +kernel
theorem dX6_readStage_21 : decode cX6_readStage 21 = .ok (.getstatic 15, 3) := by decide +kernel
theorem dX6_readStage_24 : decode cX6_readStage 24 = .ok (.iload_n 3, 1) := by decide +kernel
theorem dX6_readStage_25 : decode cX6_readStage 25 = .ok (.iaload, 1) := by decide +kernel
theorem dX6_readStage_26 : decode cX6_readStage 26 = .ok (.getstatic 57, 3) := by decide +kernel
theorem dX6_readStage_29 : decode cX6_readStage 29 = .ok (.iload_n 3, 1) := by decide +kernel
theorem dX6_readStage_30 : decode cX6_readStage 30 = .ok (.iaload, 1) := by decide +kernel
theorem dX6_readStage_31 : decode cX6_readStage 31 = .ok (.invokevirtual 50, 3) := by decide +kernel
theorem dX6_readStage_34 : decode cX6_readStage 34 = .ok (.iastore, 1) := by decide +kernel
theorem dX6_readStage_35 : decode cX6_readStage 35 = .ok (.aload_n 0, 1) := by decide +kernel
theorem dX6_readStage_36 : decode cX6_readStage 36 = .ok (.getfield 18, 3) := by decide +kernel
theorem dX6_readStage_39 : decode cX6_readStage 39 = .ok (.iload_n 3, 1) := by decide +kernel
theorem dX6_readStage_40 : decode cX6_readStage 40 = .ok (.iaload, 1) := by decide +kernel
theorem dX6_readStage_41 : decode cX6_readStage 41 = .ok (.sipush 10000, 3) := by decide +kernel
theorem dX6_readStage_44 : decode cX6_readStage 44 = .ok (.if_icmp .eq 22, 3) := by decide +kernel
theorem dX6_readStage_47 : decode cX6_readStage 47 = .ok (.aload_n 0, 1) := by decide +kernel
theorem dX6_readStage_48 : decode cX6_readStage 48 = .ok (.iload_n 3, 1) := by decide +kernel
theorem dX6_readStage_49 : decode cX6_readStage 49 = .ok (.iload_n 2, 1) := by decide +kernel
theorem dX6_readStage_50 : decode cX6_readStage 50 = .ok (.if_icmp .ge 8, 3) := by decide +kernel
theorem dX6_readStage_53 : decode cX6_readStage 53 = .ok (.bipush 44, 2) := by decide +kernel
theorem dX6_readStage_55 : decode cX6_readStage 55 = .ok (.goto 5, 3) := by decide +kernel
theorem dX6_readStage_58 : decode cX6_readStage 58 = .ok (.bipush 59, 2) := by decide +kernel
theorem dX6_readStage_60 : decode cX6_readStage 60 = .ok (.invokevirtual 40, 3) := by decide +kernel
theorem dX6_readStage_63 : decode cX6_readStage 63 = .ok (.ifCond .ne 5, 3) := by decide +kernel
theorem dX6_readStage_66 : decode cX6_readStage 66 = .ok (.iconst 0, 1) := by decide +kernel
theorem dX6_readStage_67 : decode cX6_readStage 67 = .ok (.ireturn, 1) := by decide +kernel
theorem dX6_readStage_68 : decode cX6_readStage 68 = .ok (.iinc 3 1, 3) := by decide +kernel
theorem dX6_readStage_71 : decode cX6_readStage 71 = .ok (.goto (-61), 3) := by decide +kernel
theorem dX6_readStage_74 : decode cX6_readStage 74 = .ok (.aload_n 1, 1) := by decide +kernel
theorem dX6_readStage_75 : decode cX6_readStage 75 = .ok (.aload_n 0, 1) := by decide +kernel
theorem dX6_readStage_76 : decode cX6_readStage 76 = .ok (.getfield 18, 3) := by decide +kernel
theorem dX6_readStage_79 : decode cX6_readStage 79 = .ok (.invokevirtual 60, 3) := by decide +kernel
theorem dX6_readStage_82 : decode cX6_readStage 82 = .ok (.ireturn, 1) := by decide +kernel
set_option maxRecDepth 20000 in
theorem ggX6_readNumber_X6_take : GoodIn wsX6_readNumber wsX6_take := goodIn_r _ [7, 2, 8, 1, 13, 14, 15, 16] (by decide +kernel) (by decide +kernel)
set_option maxRecDepth 20000 in
theorem gX6_readNumber_X6_take : GoodIn wsX6_readNumber (wsV RX6 40 RX6 yX6_take wsX6_take) := goodIn_app (goodIn_of _ (by decide +kernel)) ggX6_readNumber_X6_take
set_option maxRecDepth 20000 in
theorem ggX6_readNumber_X6_isFigure : GoodIn wsX6_readNumber wsX6_isFigure := goodIn_r _ [12, 2, 8, 1, 13, 14, 15, 16] (by decide +kernel) (by decide +kernel)
set_option maxRecDepth 20000 in
theorem gX6_readNumber_X6_isFigure : GoodIn wsX6_readNumber (wsV RX6 64 RX6 yX6_isFigure wsX6_isFigure) := goodIn_app (goodIn_of _ (by decide +kernel)) ggX6_readNumber_X6_isFigure
theorem dX6_readNumber_0 : decode cX6_readNumber 0 = .ok (.iload_n 1, 1) := by decide +kernel
theorem dX6_readNumber_1 : decode cX6_readNumber 1 = .ok (.ifCond .ge 16, 3) := by decide +kernel
theorem dX6_readNumber_4 : decode cX6_readNumber 4 = .ok (.aload_n 0, 1) := by decide +kernel
theorem dX6_readNumber_5 : decode cX6_readNumber 5 = .ok (.bipush 45, 2) := by decide +kernel
theorem dX6_readNumber_7 : decode cX6_readNumber 7 = .ok (.invokevirtual 40, 3) := by decide +kernel
theorem dX6_readNumber_10 : decode cX6_readNumber 10 = .ok (.ifCond .eq 7, 3) := by decide +kernel
theorem dX6_readNumber_13 : decode cX6_readNumber 13 = .ok (.iconst 1, 1) := by decide +kernel
theorem dX6_readNumber_14 : decode cX6_readNumber 14 = .ok (.goto 4, 3) := by decide +kernel
theorem dX6_readNumber_17 : decode cX6_readNumber 17 = .ok (.iconst 0, 1) := by decide +kernel
theorem dX6_readNumber_18 : decode cX6_readNumber 18 = .ok (.istore_n 3, 1) := by decide +kernel
theorem dX6_readNumber_19 : decode cX6_readNumber 19 = .ok (.iconst 0, 1) := by decide +kernel
theorem dX6_readNumber_20 : decode cX6_readNumber 20 = .ok (.istore 4, 2) := by decide +kernel
theorem dX6_readNumber_22 : decode cX6_readNumber 22 = .ok (.iconst 0, 1) := by decide +kernel
theorem dX6_readNumber_23 : decode cX6_readNumber 23 = .ok (.istore 5, 2) := by decide +kernel
theorem dX6_readNumber_25 : decode cX6_readNumber 25 = .ok (.iload 4, 2) := by decide +kernel
theorem dX6_readNumber_27 : decode cX6_readNumber 27 = .ok (.iconst 4, 1) := by decide +kernel
theorem dX6_readNumber_28 : decode cX6_readNumber 28 = .ok (.if_icmp .ge 46, 3) := by decide +kernel
theorem dX6_readNumber_31 : decode cX6_readNumber 31 = .ok (.aload_n 0, 1) := by decide +kernel
theorem dX6_readNumber_32 : decode cX6_readNumber 32 = .ok (.invokevirtual 64, 3) := by decide +kernel
theorem dX6_readNumber_35 : decode cX6_readNumber 35 = .ok (.ifCond .eq 39, 3) := by decide +kernel
theorem dX6_readNumber_38 : decode cX6_readNumber 38 = .ok (.iload 5, 2) := by decide +kernel
theorem dX6_readNumber_40 : decode cX6_readNumber 40 = .ok (.bipush 10, 2) := by decide +kernel
theorem dX6_readNumber_42 : decode cX6_readNumber 42 = .ok (.imul, 1) := by decide +kernel
theorem dX6_readNumber_43 : decode cX6_readNumber 43 = .ok (.aload_n 0, 1) := by decide +kernel
theorem dX6_readNumber_44 : decode cX6_readNumber 44 = .ok (.getfield 9, 3) := by decide +kernel
theorem dX6_readNumber_47 : decode cX6_readNumber 47 = .ok (.aload_n 0, 1) := by decide +kernel
theorem dX6_readNumber_48 : decode cX6_readNumber 48 = .ok (.getfield 30, 3) := by decide +kernel
theorem dX6_readNumber_51 : decode cX6_readNumber 51 = .ok (.iaload, 1) := by decide +kernel
theorem dX6_readNumber_52 : decode cX6_readNumber 52 = .ok (.iadd, 1) := by decide +kernel
theorem dX6_readNumber_53 : decode cX6_readNumber 53 = .ok (.bipush 48, 2) := by decide +kernel
theorem dX6_readNumber_55 : decode cX6_readNumber 55 = .ok (.isub, 1) := by decide +kernel
theorem dX6_readNumber_56 : decode cX6_readNumber 56 = .ok (.istore 5, 2) := by decide +kernel
theorem dX6_readNumber_58 : decode cX6_readNumber 58 = .ok (.aload_n 0, 1) := by decide +kernel
theorem dX6_readNumber_59 : decode cX6_readNumber 59 = .ok (.dup, 1) := by decide +kernel
theorem dX6_readNumber_60 : decode cX6_readNumber 60 = .ok (.getfield 30, 3) := by decide +kernel
theorem dX6_readNumber_63 : decode cX6_readNumber 63 = .ok (.iconst 1, 1) := by decide +kernel
theorem dX6_readNumber_64 : decode cX6_readNumber 64 = .ok (.iadd, 1) := by decide +kernel
theorem dX6_readNumber_65 : decode cX6_readNumber 65 = .ok (.putfield 30, 3) := by decide +kernel
theorem dX6_readNumber_68 : decode cX6_readNumber 68 = .ok (.iinc 4 1, 3) := by decide +kernel
theorem dX6_readNumber_71 : decode cX6_readNumber 71 = .ok (.goto (-46), 3) := by decide +kernel
theorem dX6_readNumber_74 : decode cX6_readNumber 74 = .ok (.iload 4, 2) := by decide +kernel
theorem dX6_readNumber_76 : decode cX6_readNumber 76 = .ok (.ifCond .eq 12, 3) := by decide +kernel
theorem dX6_readNumber_79 : decode cX6_readNumber 79 = .ok (.iload_n 3, 1) := by decide +kernel
theorem dX6_readNumber_80 : decode cX6_readNumber 80 = .ok (.ifCond .eq 12, 3) := by decide +kernel
theorem dX6_readNumber_83 : decode cX6_readNumber 83 = .ok (.iload 5, 2) := by decide +kernel
theorem dX6_readNumber_85 : decode cX6_readNumber 85 = .ok (.ifCond .ne 7, 3) := by decide +kernel
theorem dX6_readNumber_88 : decode cX6_readNumber 88 = .ok (.sipush 10000, 3) := by decide +kernel
theorem dX6_readNumber_91 : decode cX6_readNumber 91 = .ok (.ireturn, 1) := by decide +kernel
theorem dX6_readNumber_92 : decode cX6_readNumber 92 = .ok (.iload_n 3, 1) := by decide +kernel
theorem dX6_readNumber_93 : decode cX6_readNumber 93 = .ok (.ifCond .eq 9, 3) := by decide +kernel
theorem dX6_readNumber_96 : decode cX6_readNumber 96 = .ok (.iload 5, 2) := by decide +kernel
theorem dX6_readNumber_98 : decode cX6_readNumber 98 = .ok (.ineg, 1) := by decide +kernel
theorem dX6_readNumber_99 : decode cX6_readNumber 99 = .ok (.goto 5, 3) := by decide +kernel
theorem dX6_readNumber_102 : decode cX6_readNumber 102 = .ok (.iload 5, 2) := by decide +kernel
theorem dX6_readNumber_104 : decode cX6_readNumber 104 = .ok (.istore 6, 2) := by decide +kernel
theorem dX6_readNumber_106 : decode cX6_readNumber 106 = .ok (.iload 6, 2) := by decide +kernel
theorem dX6_readNumber_108 : decode cX6_readNumber 108 = .ok (.iload_n 1, 1) := by decide +kernel
theorem dX6_readNumber_109 : decode cX6_readNumber 109 = .ok (.if_icmp .lt 9, 3) := by decide +kernel
theorem dX6_readNumber_112 : decode cX6_readNumber 112 = .ok (.iload 6, 2) := by decide +kernel
theorem dX6_readNumber_114 : decode cX6_readNumber 114 = .ok (.iload_n 2, 1) := by decide +kernel
theorem dX6_readNumber_115 : decode cX6_readNumber 115 = .ok (.if_icmp .le 9, 3) := by decide +kernel
theorem dX6_readNumber_118 : decode cX6_readNumber 118 = .ok (.sipush 10000, 3) := by decide +kernel
theorem dX6_readNumber_121 : decode cX6_readNumber 121 = .ok (.goto 5, 3) := by decide +kernel
theorem dX6_readNumber_124 : decode cX6_readNumber 124 = .ok (.iload 6, 2) := by decide +kernel
theorem dX6_readNumber_126 : decode cX6_readNumber 126 = .ok (.ireturn, 1) := by decide +kernel
theorem dX6_isFigure_0 : decode cX6_isFigure 0 = .ok (.aload_n 0, 1) := by decide +kernel
theorem dX6_isFigure_1 : decode cX6_isFigure 1 = .ok (.getfield 30, 3) := by decide +kernel
theorem dX6_isFigure_4 : decode cX6_isFigure 4 = .ok (.aload_n 0, 1) := by decide +kernel
theorem dX6_isFigure_5 : decode cX6_isFigure 5 = .ok (.getfield 21, 3) := by decide +kernel
theorem dX6_isFigure_8 : decode cX6_isFigure 8 = .ok (.if_icmp .ge 35, 3) := by decide +kernel
theorem dX6_isFigure_11 : decode cX6_isFigure 11 = .ok (.aload_n 0, 1) := by decide +kernel
theorem dX6_isFigure_12 : decode cX6_isFigure 12 = .ok (.getfield 9, 3) := by decide +kernel
theorem dX6_isFigure_15 : decode cX6_isFigure 15 = .ok (.aload_n 0, 1) := by decide +kernel
theorem dX6_isFigure_16 : decode cX6_isFigure 16 = .ok (.getfield 30, 3) := by decide +kernel
theorem dX6_isFigure_19 : decode cX6_isFigure 19 = .ok (.iaload, 1) := by decide +kernel
theorem dX6_isFigure_20 : decode cX6_isFigure 20 = .ok (.bipush 48, 2) := by decide +kernel
theorem dX6_isFigure_22 : decode cX6_isFigure 22 = .ok (.if_icmp .lt 21, 3) := by decide +kernel
theorem dX6_isFigure_25 : decode cX6_isFigure 25 = .ok (.aload_n 0, 1) := by decide +kernel
theorem dX6_isFigure_26 : decode cX6_isFigure 26 = .ok (.getfield 9, 3) := by decide +kernel
theorem dX6_isFigure_29 : decode cX6_isFigure 29 = .ok (.aload_n 0, 1) := by decide +kernel
theorem dX6_isFigure_30 : decode cX6_isFigure 30 = .ok (.getfield 30, 3) := by decide +kernel
theorem dX6_isFigure_33 : decode cX6_isFigure 33 = .ok (.iaload, 1) := by decide +kernel
theorem dX6_isFigure_34 : decode cX6_isFigure 34 = .ok (.bipush 57, 2) := by decide +kernel
theorem dX6_isFigure_36 : decode cX6_isFigure 36 = .ok (.if_icmp .gt 7, 3) := by decide +kernel
theorem dX6_isFigure_39 : decode cX6_isFigure 39 = .ok (.iconst 1, 1) := by decide +kernel
theorem dX6_isFigure_40 : decode cX6_isFigure 40 = .ok (.goto 4, 3) := by decide +kernel
theorem dX6_isFigure_43 : decode cX6_isFigure 43 = .ok (.iconst 0, 1) := by decide +kernel
theorem dX6_isFigure_44 : decode cX6_isFigure 44 = .ok (.ireturn, 1) := by decide +kernel
theorem dX6_take_0 : decode cX6_take 0 = .ok (.aload_n 0, 1) := by decide +kernel
theorem dX6_take_1 : decode cX6_take 1 = .ok (.getfield 30, 3) := by decide +kernel
theorem dX6_take_4 : decode cX6_take 4 = .ok (.aload_n 0, 1) := by decide +kernel
theorem dX6_take_5 : decode cX6_take 5 = .ok (.getfield 21, 3) := by decide +kernel
theorem dX6_take_8 : decode cX6_take 8 = .ok (.if_icmp .ge 16, 3) := by decide +kernel
theorem dX6_take_11 : decode cX6_take 11 = .ok (.aload_n 0, 1) := by decide +kernel
theorem dX6_take_12 : decode cX6_take 12 = .ok (.getfield 9, 3) := by decide +kernel
theorem dX6_take_15 : decode cX6_take 15 = .ok (.aload_n 0, 1) := by decide +kernel
theorem dX6_take_16 : decode cX6_take 16 = .ok (.getfield 30, 3) := by decide +kernel
theorem dX6_take_19 : decode cX6_take 19 = .ok (.iaload, 1) := by decide +kernel
theorem dX6_take_20 : decode cX6_take 20 = .ok (.iload_n 1, 1) := by decide +kernel
theorem dX6_take_21 : decode cX6_take 21 = .ok (.if_icmp .eq 5, 3) := by decide +kernel
theorem dX6_take_24 : decode cX6_take 24 = .ok (.iconst 0, 1) := by decide +kernel
theorem dX6_take_25 : decode cX6_take 25 = .ok (.ireturn, 1) := by decide +kernel
theorem dX6_take_26 : decode cX6_take 26 = .ok (.aload_n 0, 1) := by decide +kernel
theorem dX6_take_27 : decode cX6_take 27 = .ok (.dup, 1) := by decide +kernel
theorem dX6_take_28 : decode cX6_take 28 = .ok (.getfield 30, 3) := by decide +kernel
theorem dX6_take_31 : decode cX6_take 31 = .ok (.iconst 1, 1) := by decide +kernel
theorem dX6_take_32 : decode cX6_take 32 = .ok (.iadd, 1) := by decide +kernel
theorem dX6_take_33 : decode cX6_take 33 = .ok (.putfield 30, 3) := by decide +kernel
theorem dX6_take_36 : decode cX6_take 36 = .ok (.iconst 1, 1) := by decide +kernel
theorem dX6_take_37 : decode cX6_take 37 = .ok (.ireturn, 1) := by decide +kernel
