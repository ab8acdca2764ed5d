set_option maxRecDepth 20000 in
theorem ggX7_init_X6_init : GoodIn wsX7_init wsX6_init := goodIn_r _ [28, 29, 2, 3, 30, 31, 32, 239, 240, 241, 242] (by decide +kernel) (by decide +kernel)
set_option maxRecDepth 20000 in
theorem gX7_init_X6_init : GoodIn wsX7_init (wsX6_init) := ggX7_init_X6_init
set_option maxRecDepth 20000 in
theorem ggX7_init_X1_init : GoodIn wsX7_init wsX1_init := goodIn_r _ [35, 36, 2, 3, 37, 38, 39, 40, 41, 42, 43, 44, 45, 46, 47, 48, 49, 50, 30, 51, 52, 53, 54, 55, 56, 57, 249, 250, 251, 252, 253, 254, 268, 269, 270, 271, 272, 273, 274, 275, 276, 277, 278, 279, 280, 281, 282, 283, 284, 285, 286, 287] (by decide +kernel) (by decide +kernel)
set_option maxRecDepth 20000 in
theorem gX7_init_X1_init : GoodIn wsX7_init (wsX1_init) := ggX7_init_X1_init
set_option maxRecDepth 20000 in
theorem ggX7_init_X2_init : GoodIn wsX7_init wsX2_init := goodIn_r _ [60, 61, 2, 3, 62, 63, 9, 10, 64, 34, 35, 36, 37, 38, 39, 40, 41, 42, 43, 44, 45, 46, 47, 48, 49, 50, 30, 51, 52, 53, 54, 55, 56, 57, 255, 256, 257, 249, 250, 251, 252, 253, 254, 268, 269, 270, 271, 272, 273, 274, 275, 276, 277, 278, 279, 280, 281, 282, 283, 284, 285, 286, 287] (by decide +kernel) (by decide +kernel)
set_option maxRecDepth 20000 in
theorem gX7_init_X2_init : GoodIn wsX7_init (wsX2_init) := ggX7_init_X2_init
set_option maxRecDepth 20000 in
theorem ggX7_init_X0_init : GoodIn wsX7_init wsX0_init := goodIn_r _ [67, 68, 2, 3, 69, 9, 10, 70, 71, 72, 30, 73, 74, 34, 35, 36, 37, 38, 39, 40, 41, 42, 43, 44, 45, 46, 47, 48, 49, 50, 51, 52, 53, 54, 55, 56, 57, 249, 250, 251, 252, 253, 254, 258, 259, 260, 261, 262, 263, 264, 268, 269, 270, 271, 272, 273, 274, 275, 276, 277, 278, 279, 280, 281, 282, 283, 284, 285, 286, 287] (by decide +kernel) (by decide +kernel)
set_option maxRecDepth 20000 in
theorem gX7_init_X0_init : GoodIn wsX7_init (wsX0_init) := ggX7_init_X0_init
set_option maxRecDepth 20000 in
theorem ggX7_init_X3_init : GoodIn wsX7_init wsX3_init := goodIn_r _ [77, 78, 2, 3, 30, 79, 80, 265, 266, 267] (by decide +kernel) (by decide +kernel)
set_option maxRecDepth 20000 in
theorem gX7_init_X3_init : GoodIn wsX7_init (wsX3_init) := ggX7_init_X3_init
set_option maxRecDepth 20000 in
theorem ggX7_init_J0_length_8abf5 : GoodIn wsX7_init wsJ0_length_8abf5 := goodIn_r _ [85, 86, 87, 88, 89, 84, 90, 91, 92] (by decide +kernel) (by decide +kernel)
set_option maxRecDepth 20000 in
theorem gX7_init_J0_length_8abf5 : GoodIn wsX7_init (wsV RX7 49 RJ0 yJ0_length_8abf5 wsJ0_length_8abf5) := goodIn_app (goodIn_of _ (by decide +kernel)) ggX7_init_J0_length_8abf5
set_option maxRecDepth 20000 in
theorem ggX7_init_J0_charAt_5068e : GoodIn wsX7_init wsJ0_charAt_5068e := goodIn_r _ [96, 86, 97, 98, 99, 84, 100, 91, 92, 101, 102, 103, 104, 105, 106, 107, 108, 109, 110, 111, 112, 113, 114, 115, 116, 117, 118, 119, 120, 121, 122, 123, 124, 125, 126, 127, 128, 129] (by decide +kernel) (by decide +kernel)
set_option maxRecDepth 20000 in
theorem gX7_init_J0_charAt_5068e : GoodIn wsX7_init (wsV RX7 55 RJ0 yJ0_charAt_5068e wsJ0_charAt_5068e) := goodIn_app (goodIn_of _ (by decide +kernel)) ggX7_init_J0_charAt_5068e
set_option maxRecDepth 20000 in
theorem ggX7_init_X6_append : GoodIn wsX7_init wsX6_append := goodIn_r _ [133, 134, 31, 239, 240, 241, 242] (by decide +kernel) (by decide +kernel)
set_option maxRecDepth 20000 in
theorem gX7_init_X6_append : GoodIn wsX7_init (wsV RX7 59 RX6 yX6_append wsX6_append) := goodIn_app (goodIn_of _ (by decide +kernel)) ggX7_init_X6_append
set_option maxRecDepth 20000 in
theorem ggX7_init_X6_readInto : GoodIn wsX7_init wsX6_readInto := goodIn_r _ [138, 139, 134, 140, 141, 142, 10, 143, 144, 145, 146, 44, 147, 148, 149, 43, 150, 151, 152, 153, 154, 155, 6, 156, 157, 158, 159, 160, 31, 161, 162, 163, 164, 165, 166, 167, 168, 169, 170, 171, 172, 173, 174, 175, 176, 177, 32, 178, 179, 180, 181, 38, 182, 183, 184, 46, 185, 186, 187, 188, 189, 190, 191, 192, 193, 194, 195, 196, 197, 198, 199, 200, 201, 202, 203, 204, 205, 206, 207, 208, 209, 210, 211, 212, 213, 214, 215, 216, 217, 218, 219, 239, 240, 241, 242, 249, 250, 251, 252, 253, 254, 268, 269, 270, 271, 272, 273, 274, 275, 276, 277, 278, 279, 280, 281, 282, 283, 284, 285, 286, 287] (by decide +kernel) (by decide +kernel)
set_option maxRecDepth 20000 in
theorem gX7_init_X6_readInto : GoodIn wsX7_init (wsV RX7 63 RX6 yX6_readInto wsX6_readInto) := goodIn_app (goodIn_of _ (by decide +kernel)) ggX7_init_X6_readInto
set_option maxRecDepth 20000 in
theorem ggX7_init_X1_copyFrom : GoodIn wsX7_init wsX1_copyFrom := goodIn_r _ [223, 38, 44, 144, 145, 146, 224, 225, 226, 46, 227, 186, 187, 188, 189, 190, 191, 192, 193, 194, 195, 196, 197, 228, 229, 230, 231, 232, 233, 43, 234, 51, 235, 236, 237, 238, 52, 53, 151, 152, 249, 250, 251, 252, 253, 254, 273, 274, 275, 276, 277, 278, 279, 280, 281, 282, 283, 284, 285, 286, 287, 268, 269, 270, 271, 272] (by decide +kernel) (by decide +kernel)
set_option maxRecDepth 20000 in
theorem gX7_init_X1_copyFrom : GoodIn wsX7_init (wsV RX7 67 RX1 yX1_copyFrom wsX1_copyFrom) := goodIn_app (goodIn_of _ (by decide +kernel)) ggX7_init_X1_copyFrom
theorem dX7_init_0 : decode cX7_init 0 = .ok (.aload_n 0, 1) := by decide +kernel
theorem dX7_init_1 : decode cX7_init 1 = .ok (.invokespecial 1, 3) := by decide +kernel
theorem dX7_init_4 : decode cX7_init 4 = .ok (.aload_n 0, 1) := by decide +kernel
theorem dX7_init_5 : decode cX7_init 5 = .ok (.new 7, 3) := by decide +kernel
theorem dX7_init_8 : decode cX7_init 8 = .ok (.dup, 1) := by decide +kernel
theorem dX7_init_9 : decode cX7_init 9 = .ok (.invokespecial 9, 3) := by decide +kernel
theorem dX7_init_12 : decode cX7_init 12 = .ok (.putfield 10, 3) := by decide +kernel
theorem dX7_init_15 : decode cX7_init 15 = .ok (.aload_n 0, 1) := by decide +kernel
theorem dX7_init_16 : decode cX7_init 16 = .ok (.new 16, 3) := by decide +kernel
theorem dX7_init_19 : decode cX7_init 19 = .ok (.dup, 1) := by decide +kernel
theorem dX7_init_20 : decode cX7_init 20 = .ok (.invokespecial 18, 3) := by decide +kernel
theorem dX7_init_23 : decode cX7_init 23 = .ok (.putfield 19, 3) := by decide +kernel
theorem dX7_init_26 : decode cX7_init 26 = .ok (.aload_n 0, 1) := by decide +kernel
theorem dX7_init_27 : decode cX7_init 27 = .ok (.new 16, 3) := by decide +kernel
theorem dX7_init_30 : decode cX7_init 30 = .ok (.dup, 1) := by decide +kernel
theorem dX7_init_31 : decode cX7_init 31 = .ok (.invokespecial 18, 3) := by decide +kernel
theorem dX7_init_34 : decode cX7_init 34 = .ok (.putfield 23, 3) := by decide +kernel
theorem dX7_init_37 : decode cX7_init 37 = .ok (.aload_n 0, 1) := by decide +kernel
theorem dX7_init_38 : decode cX7_init 38 = .ok (.new 26, 3) := by decide +kernel
theorem dX7_init_41 : decode cX7_init 41 = .ok (.dup, 1) := by decide +kernel
theorem dX7_init_42 : decode cX7_init 42 = .ok (.invokespecial 28, 3) := by decide +kernel
theorem dX7_init_45 : decode cX7_init 45 = .ok (.putfield 29, 3) := by decide +kernel
theorem dX7_init_48 : decode cX7_init 48 = .ok (.aload_n 0, 1) := by decide +kernel
theorem dX7_init_49 : decode cX7_init 49 = .ok (.new 33, 3) := by decide +kernel
theorem dX7_init_52 : decode cX7_init 52 = .ok (.dup, 1) := by decide +kernel
theorem dX7_init_53 : decode cX7_init 53 = .ok (.invokespecial 35, 3) := by decide +kernel
theorem dX7_init_56 : decode cX7_init 56 = .ok (.putfield 36, 3) := by decide +kernel
theorem dX7_init_59 : decode cX7_init 59 = .ok (.aload_n 0, 1) := by decide +kernel
theorem dX7_init_60 : decode cX7_init 60 = .ok (.new 40, 3) := by decide +kernel
theorem dX7_init_63 : decode cX7_init 63 = .ok (.dup, 1) := by decide +kernel
theorem dX7_init_64 : decode cX7_init 64 = .ok (.invokespecial 42, 3) := by decide +kernel
theorem dX7_init_67 : decode cX7_init 67 = .ok (.putfield 43, 3) := by decide +kernel
theorem dX7_init_70 : decode cX7_init 70 = .ok (.iconst 0, 1) := by decide +kernel
theorem dX7_init_71 : decode cX7_init 71 = .ok (.istore_n 1, 1) := by decide +kernel
theorem dX7_init_72 : decode cX7_init 72 = .ok (.iload_n 1, 1) := by decide +kernel
theorem dX7_init_73 : decode cX7_init 73 = .ok (.ldc 47, 2) := by decide +kernel
theorem dX7_init_75 : decode cX7_init 75 = .ok (.invokevirtual 49, 3) := by decide +kernel
theorem dX7_init_78 : decode cX7_init 78 = .ok (.if_icmp .ge 23, 3) := by decide +kernel
theorem dX7_init_81 : decode cX7_init 81 = .ok (.aload_n 0, 1) := by decide +kernel
theorem dX7_init_82 : decode cX7_init 82 = .ok (.getfield 10, 3) := by decide +kernel
theorem dX7_init_85 : decode cX7_init 85 = .ok (.ldc 47, 2) := by decide +kernel
theorem dX7_init_87 : decode cX7_init 87 = .ok (.iload_n 1, 1) := by decide +kernel
theorem dX7_init_88 : decode cX7_init 88 = .ok (.invokevirtual 55, 3) := by decide +kernel
theorem dX7_init_91 : decode cX7_init 91 = .ok (.invokevirtual 59, 3) := by decide +kernel
theorem dX7_init_94 : decode cX7_init 94 = .ok (.pop, 1) := by decide +kernel
theorem dX7_init_95 : decode cX7_init 95 = .ok (.iinc 1 1, 3) := by decide +kernel
theorem dX7_init_98 : decode cX7_init 98 = .ok (.goto (-26), 3) := by decide +kernel
theorem dX7_init_101 : decode cX7_init 101 = .ok (.aload_n 0, 1) := by decide +kernel
theorem dX7_init_102 : decode cX7_init 102 = .ok (.getfield 10, 3) := by decide +kernel
theorem dX7_init_105 : decode cX7_init 105 = .ok (.aload_n 0, 1) := by decide +kernel
theorem dX7_init_106 : decode cX7_init 106 = .ok (.getfield 23, 3) := by decide +kernel
theorem dX7_init_109 : decode cX7_init 109 = .ok (.invokevirtual 63, 3) := by decide +kernel
theorem dX7_init_112 : decode cX7_init 112 = .ok (.bipush (-4), 2) := by decide +kernel
theorem dX7_init_114 : decode cX7_init 114 = .ok (.if_icmp .ne 14, 3) := by decide +kernel
theorem dX7_init_117 : decode cX7_init 117 = .ok (.aload_n 0, 1) := by decide +kernel
theorem dX7_init_118 : decode cX7_init 118 = .ok (.getfield 19, 3) := by decide +kernel
theorem dX7_init_121 : decode cX7_init 121 = .ok (.aload_n 0, 1) := by decide +kernel
theorem dX7_init_122 : decode cX7_init 122 = .ok (.getfield 23, 3) := by decide +kernel
theorem dX7_init_125 : decode cX7_init 125 = .ok (.invokevirtual 67, 3) := by decide +kernel
theorem dX7_init_128 : decode cX7_init 128 = .ok (.aload_n 0, 1) := by decide +kernel
theorem dX7_init_129 : decode cX7_init 129 = .ok (.getfield 10, 3) := by decide +kernel
theorem dX7_init_132 : decode cX7_init 132 = .ok (.iconst 0, 1) := by decide +kernel
theorem dX7_init_133 : decode cX7_init 133 = .ok (.putfield 71, 3) := by decide +kernel
theorem dX7_init_136 : decode cX7_init 136 = .ok (.return_, 1) := by decide +kernel
set_option maxRecDepth 20000 in
theorem ggX7_write_X6_append : GoodIn wsX7_write wsX6_append := goodIn_r _ [7, 8, 9, 16, 17, 18, 19] (by decide +kernel) (by decide +kernel)
set_option maxRecDepth 20000 in
theorem gX7_write_X6_append : GoodIn wsX7_write (wsV RX7 59 RX6 yX6_append wsX6_append) := goodIn_app (goodIn_of _ (by decide +kernel)) ggX7_write_X6_append
theorem dX7_write_0 : decode cX7_write 0 = .ok (.iload_n 1, 1) := by decide +kernel
theorem dX7_write_1 : decode cX7_write 1 = .ok (.bipush 32, 2) := by decide +kernel
theorem dX7_write_3 : decode cX7_write 3 = .ok (.if_icmp .lt 9, 3) := by decide +kernel
theorem dX7_write_6 : decode cX7_write 6 = .ok (.iload_n 1, 1) := by decide +kernel
theorem dX7_write_7 : decode cX7_write 7 = .ok (.bipush 126, 2) := by decide +kernel
theorem dX7_write_9 : decode cX7_write 9 = .ok (.if_icmp .le 5, 3) := by decide +kernel
theorem dX7_write_12 : decode cX7_write 12 = .ok (.iconst (-1), 1) := by decide +kernel
theorem dX7_write_13 : decode cX7_write 13 = .ok (.ireturn, 1) := by decide +kernel
theorem dX7_write_14 : decode cX7_write 14 = .ok (.aload_n 0, 1) := by decide +kernel
theorem dX7_write_15 : decode cX7_write 15 = .ok (.getfield 10, 3) := by decide +kernel
theorem dX7_write_18 : decode cX7_write 18 = .ok (.iload_n 1, 1) := by decide +kernel
theorem dX7_write_19 : decode cX7_write 19 = .ok (.invokevirtual 59, 3) := by decide +kernel
theorem dX7_write_22 : decode cX7_write 22 = .ok (.ifCond .eq 13, 3) := by decide +kernel
theorem dX7_write_25 : decode cX7_write 25 = .ok (.aload_n 0, 1) := by decide +kernel
theorem dX7_write_26 : decode cX7_write 26 = .ok (.getfield 10, 3) := by decide +kernel
theorem dX7_write_29 : decode cX7_write 29 = .ok (.getfield 71, 3) := by decide +kernel
theorem dX7_write_32 : decode cX7_write 32 = .ok (.goto 5, 3) := by decide +kernel
theorem dX7_write_35 : decode cX7_write 35 = .ok (.bipush (-3), 2) := by decide +kernel
theorem dX7_write_37 : decode cX7_write 37 = .ok (.ireturn, 1) := by decide +kernel
theorem dX7_wipe_0 : decode cX7_wipe 0 = .ok (.aload_n 0, 1) := by decide +kernel
theorem dX7_wipe_1 : decode cX7_wipe 1 = .ok (.getfield 10, 3) := by decide +kernel
theorem dX7_wipe_4 : decode cX7_wipe 4 = .ok (.getfield 71, 3) := by decide +kernel
theorem dX7_wipe_7 : decode cX7_wipe 7 = .ok (.istore_n 1, 1) := by decide +kernel
theorem dX7_wipe_8 : decode cX7_wipe 8 = .ok (.aload_n 0, 1) := by decide +kernel
theorem dX7_wipe_9 : decode cX7_wipe 9 = .ok (.getfield 10, 3) := by decide +kernel
theorem dX7_wipe_12 : decode cX7_wipe 12 = .ok (.iconst 0, 1) := by decide +kernel
theorem dX7_wipe_13 : decode cX7_wipe 13 = .ok (.putfield 71, 3) := by decide +kernel
theorem dX7_wipe_16 : decode cX7_wipe 16 = .ok (.iload_n 1, 1) := by decide +kernel
theorem dX7_wipe_17 : decode cX7_wipe 17 = .ok (.ireturn, 1) := by decide +kernel
set_option maxRecDepth 20000 in
theorem ggX7_fault_X6_readInto : GoodIn wsX7_fault wsX6_readInto := goodIn_r _ [7, 8, 9, 10, 11, 12, 13, 14, 15, 16, 17, 18, 19, 20, 21, 22, 23, 24, 25, 26, 27, 28, 6, 29, 30, 31, 32, 33, 34, 35, 36, 37, 38, 39, 40, 41, 42, 43, 44, 45, 46, 47, 48, 49, 50, 51, 52, 53, 54, 55, 56, 57, 58, 59, 60, 61, 62, 63, 64, 65, 66, 67, 68, 69, 70, 71, 72, 73, 74, 75, 76, 77, 78, 79, 80, 81, 82, 83, 84, 85, 86, 87, 88, 89, 90, 91, 92, 93, 94, 95, 96, 103, 104, 105, 106, 107, 108, 109, 110, 111, 112, 113, 114, 115, 116, 117, 118, 119, 120, 121, 122, 123, 124, 125, 126, 127, 128, 129, 130, 131, 132] (by decide +kernel) (by decide +kernel)
set_option maxRecDepth 20000 in
theorem gX7_fault_X6_readInto : GoodIn wsX7_fault (wsV RX7 63 RX6 yX6_readInto wsX6_readInto) := goodIn_app (goodIn_of _ (by decide +kernel)) ggX7_fault_X6_readInto
theorem dX7_fault_0 : decode cX7_fault 0 = .ok (.aload_n 0, 1) := by decide +kernel
theorem dX7_fault_1 : decode cX7_fault 1 = .ok (.getfield 10, 3) := by decide +kernel
theorem dX7_fault_4 : decode cX7_fault 4 = .ok (.aload_n 0, 1) := by decide +kernel
theorem dX7_fault_5 : decode cX7_fault 5 = .ok (.getfield 23, 3) := by decide +kernel
theorem dX7_fault_8 : decode cX7_fault 8 = .ok (.invokevirtual 63, 3) := by decide +kernel
theorem dX7_fault_11 : decode cX7_fault 11 = .ok (.ireturn, 1) := by decide +kernel
set_option maxRecDepth 20000 in
theorem ggX7_lay_X6_readInto : GoodIn wsX7_lay wsX6_readInto := goodIn_r _ [10, 11, 12, 13, 14, 15, 16, 17, 18, 19, 20, 21, 22, 23, 24, 25, 26, 27, 28, 29, 30, 31, 9, 32, 33, 34, 35, 36, 37, 38, 39, 40, 41, 42, 43, 44, 45, 46, 47, 48, 49, 50, 51, 52, 53, 54, 55, 56, 57, 58, 59, 60, 61, 62, 63, 64, 65, 66, 67, 68, 69, 70, 71, 72, 73, 74, 75, 76, 77, 78, 79, 80, 81, 82, 83, 84, 85, 86, 87, 88, 89, 90, 91, 92, 93, 94, 95, 96, 97, 98, 99, 140, 141, 142, 143, 134, 135, 136, 137, 138, 139, 144, 145, 146, 147, 148, 149, 150, 151, 152, 153, 154, 155, 156, 157, 158, 159, 160, 161, 162, 163] (by decide +kernel) (by decide +kernel)
set_option maxRecDepth 20000 in
theorem gX7_lay_X6_readInto : GoodIn wsX7_lay (wsV RX7 63 RX6 yX6_readInto wsX6_readInto) := goodIn_app (goodIn_of _ (by decide +kernel)) ggX7_lay_X6_readInto
set_option maxRecDepth 20000 in
theorem ggX7_lay_X1_copyFrom : GoodIn wsX7_lay wsX1_copyFrom := goodIn_r _ [103, 60, 21, 18, 19, 20, 104, 105, 106, 64, 107, 66, 67, 68, 69, 70, 71, 72, 73, 74, 75, 76, 77, 108, 109, 110, 111, 112, 113, 25, 114, 115, 116, 117, 118, 119, 120, 121, 27, 28, 134, 135, 136, 137, 138, 139, 149, 150, 151, 152, 153, 154, 155, 156, 157, 158, 159, 160, 161, 162, 163, 144, 145, 146, 147, 148] (by decide +kernel) (by decide +kernel)
set_option maxRecDepth 20000 in
theorem gX7_lay_X1_copyFrom : GoodIn wsX7_lay (wsV RX7 67 RX1 yX1_copyFrom wsX1_copyFrom) := goodIn_app (goodIn_of _ (by decide +kernel)) ggX7_lay_X1_copyFrom
set_option maxRecDepth 20000 in
theorem ggX7_lay_X2_forget : GoodIn wsX7_lay wsX2_forget := goodIn_r _ [126, 127, 164, 165, 166] (by decide +kernel) (by decide +kernel)
set_option maxRecDepth 20000 in
theorem gX7_lay_X2_forget : GoodIn wsX7_lay (wsV RX7 77 RX2 yX2_forget wsX2_forget) := goodIn_app (goodIn_of _ (by decide +kernel)) ggX7_lay_X2_forget
theorem dX7_lay_0 : decode cX7_lay 0 = .ok (.aload_n 0, 1) := by decide +kernel
theorem dX7_lay_1 : decode cX7_lay 1 = .ok (.getfield 10, 3) := by decide +kernel
theorem dX7_lay_4 : decode cX7_lay 4 = .ok (.aload_n 0, 1) := by decide +kernel
theorem dX7_lay_5 : decode cX7_lay 5 = .ok (.getfield 23, 3) := by decide +kernel
theorem dX7_lay_8 : decode cX7_lay 8 = .ok (.invokevirtual 63, 3) := by decide +kernel
theorem dX7_lay_11 : decode cX7_lay 11 = .ok (.bipush (-4), 2) := by decide +kernel
theorem dX7_lay_13 : decode cX7_lay 13 = .ok (.if_icmp .ne 13, 3) := by decide +kernel
theorem dX7_lay_16 : decode cX7_lay 16 = .ok (.aload_n 0, 1) := by decide +kernel
theorem dX7_lay_17 : decode cX7_lay 17 = .ok (.getfield 23, 3) := by decide +kernel
theorem dX7_lay_20 : decode cX7_lay 20 = .ok (.getfield 74, 3) := by decide +kernel
theorem dX7_lay_23 : decode cX7_lay 23 = .ok (.ifCond .ne 6, 3) := by decide +kernel
theorem dX7_lay_26 : decode cX7_lay 26 = .ok (.bipush (-2), 2) := by decide +kernel
theorem dX7_lay_28 : decode cX7_lay 28 = .ok (.ireturn, 1) := by decide +kernel
theorem dX7_lay_29 : decode cX7_lay 29 = .ok (.aload_n 0, 1) := by decide +kernel
theorem dX7_lay_30 : decode cX7_lay 30 = .ok (.getfield 19, 3) := by decide +kernel
theorem dX7_lay_33 : decode cX7_lay 33 = .ok (.aload_n 0, 1) := by decide +kernel
theorem dX7_lay_34 : decode cX7_lay 34 = .ok (.getfield 23, 3) := by decide +kernel
theorem dX7_lay_37 : decode cX7_lay 37 = .ok (.invokevirtual 67, 3) := by decide +kernel
theorem dX7_lay_40 : decode cX7_lay 40 = .ok (.aload_n 0, 1) := by decide +kernel
theorem dX7_lay_41 : decode cX7_lay 41 = .ok (.getfield 29, 3) := by decide +kernel
theorem dX7_lay_44 : decode cX7_lay 44 = .ok (.invokevirtual 77, 3) := by decide +kernel
theorem dX7_lay_47 : decode cX7_lay 47 = .ok (.aload_n 0, 1) := by decide +kernel
theorem dX7_lay_48 : decode cX7_lay 48 = .ok (.getfield 19, 3) := by decide +kernel
theorem dX7_lay_51 : decode cX7_lay 51 = .ok (.getfield 74, 3) := by decide +kernel
theorem dX7_lay_54 : decode cX7_lay 54 = .ok (.ireturn, 1) := by decide +kernel
set_option maxRecDepth 20000 in
theorem ggX7_source_X2_keep : GoodIn wsX7_source wsX2_keep := goodIn_r _ [8, 9, 10, 11, 12, 13, 14, 15, 16, 17, 18, 19, 20, 21, 22, 23, 24, 25, 26, 27, 28, 29, 30, 31, 32, 33, 34, 35, 36, 37, 38, 39, 40, 41, 42, 43, 44, 45, 46, 47, 48, 49, 50, 51, 52, 53, 54, 55, 56, 57, 58, 59, 94, 95, 96, 88, 89, 90, 91, 92, 93, 97, 98, 99, 100, 101, 102, 103, 104, 105, 106, 107, 108, 109, 110, 111, 112, 113, 114, 115, 116] (by decide +kernel) (by decide +kernel)
set_option maxRecDepth 20000 in
theorem gX7_source_X2_keep : GoodIn wsX7_source (wsV RX7 83 RX2 yX2_keep wsX2_keep) := goodIn_app (goodIn_of _ (by decide +kernel)) ggX7_source_X2_keep
set_option maxRecDepth 20000 in
theorem ggX7_source_X1_reckon : GoodIn wsX7_source wsX1_reckon := goodIn_r _ [63, 23, 21, 64, 65, 24, 66, 67, 68, 69, 70, 29, 71, 38, 31, 72, 73, 74, 75, 76, 77, 19, 78, 79, 80, 81, 88, 89, 90, 91, 92, 93, 97, 98, 99, 100, 101, 102, 103, 104, 105, 106, 107, 108, 109, 110, 111] (by decide +kernel) (by decide +kernel)
set_option maxRecDepth 20000 in
theorem gX7_source_X1_reckon : GoodIn wsX7_source (wsV RX7 86 RX1 yX1_reckon wsX1_reckon) := goodIn_app (goodIn_of _ (by decide +kernel)) ggX7_source_X1_reckon
theorem dX7_source_0 : decode cX7_source 0 = .ok (.iload_n 1, 1) := by decide +kernel
theorem dX7_source_1 : decode cX7_source 1 = .ok (.sipush 800, 3) := by decide +kernel
theorem dX7_source_4 : decode cX7_source 4 = .ok (.if_icmp .lt 10, 3) := by decide +kernel
theorem dX7_source_7 : decode cX7_source 7 = .ok (.iload_n 1, 1) := by decide +kernel
theorem dX7_source_8 : decode cX7_source 8 = .ok (.sipush 1200, 3) := by decide +kernel
theorem dX7_source_11 : decode cX7_source 11 = .ok (.if_icmp .le 5, 3) := by decide +kernel
theorem dX7_source_14 : decode cX7_source 14 = .ok (.iconst (-1), 1) := by decide +kernel
theorem dX7_source_15 : decode cX7_source 15 = .ok (.ireturn, 1) := by decide +kernel
theorem dX7_source_16 : decode cX7_source 16 = .ok (.aload_n 0, 1) := by decide +kernel
theorem dX7_source_17 : decode cX7_source 17 = .ok (.getfield 19, 3) := by decide +kernel
theorem dX7_source_20 : decode cX7_source 20 = .ok (.getfield 80, 3) := by decide +kernel
theorem dX7_source_23 : decode cX7_source 23 = .ok (.istore_n 2, 1) := by decide +kernel
theorem dX7_source_24 : decode cX7_source 24 = .ok (.iload_n 2, 1) := by decide +kernel
theorem dX7_source_25 : decode cX7_source 25 = .ok (.iload_n 1, 1) := by decide +kernel
theorem dX7_source_26 : decode cX7_source 26 = .ok (.if_icmp .ne 6, 3) := by decide +kernel
theorem dX7_source_29 : decode cX7_source 29 = .ok (.bipush (-2), 2) := by decide +kernel
theorem dX7_source_31 : decode cX7_source 31 = .ok (.ireturn, 1) := by decide +kernel
theorem dX7_source_32 : decode cX7_source 32 = .ok (.aload_n 0, 1) := by decide +kernel
theorem dX7_source_33 : decode cX7_source 33 = .ok (.getfield 29, 3) := by decide +kernel
theorem dX7_source_36 : decode cX7_source 36 = .ok (.aload_n 0, 1) := by decide +kernel
theorem dX7_source_37 : decode cX7_source 37 = .ok (.getfield 19, 3) := by decide +kernel
theorem dX7_source_40 : decode cX7_source 40 = .ok (.invokevirtual 83, 3) := by decide +kernel
theorem dX7_source_43 : decode cX7_source 43 = .ok (.aload_n 0, 1) := by decide +kernel
theorem dX7_source_44 : decode cX7_source 44 = .ok (.getfield 19, 3) := by decide +kernel
theorem dX7_source_47 : decode cX7_source 47 = .ok (.iload_n 1, 1) := by decide +kernel
theorem dX7_source_48 : decode cX7_source 48 = .ok (.putfield 80, 3) := by decide +kernel
theorem dX7_source_51 : decode cX7_source 51 = .ok (.aload_n 0, 1) := by decide +kernel
theorem dX7_source_52 : decode cX7_source 52 = .ok (.getfield 19, 3) := by decide +kernel
theorem dX7_source_55 : decode cX7_source 55 = .ok (.invokevirtual 86, 3) := by decide +kernel
theorem dX7_source_58 : decode cX7_source 58 = .ok (.iload_n 2, 1) := by decide +kernel
theorem dX7_source_59 : decode cX7_source 59 = .ok (.ireturn, 1) := by decide +kernel
set_option maxRecDepth 20000 in
theorem ggX7_tell_X1_has : GoodIn wsX7_tell wsX1_has := goodIn_r _ [8, 9, 103, 104, 105, 106, 107, 108] (by decide +kernel) (by decide +kernel)
set_option maxRecDepth 20000 in
theorem gX7_tell_X1_has : GoodIn wsX7_tell (wsV RX7 89 RX1 yX1_has wsX1_has) := goodIn_app (goodIn_of _ (by decide +kernel)) ggX7_tell_X1_has
set_option maxRecDepth 20000 in
theorem ggX7_tell_X7_mayBeTold : GoodIn wsX7_tell wsX7_mayBeTold := goodIn_r _ [13] (by decide +kernel) (by decide +kernel)
set_option maxRecDepth 20000 in
theorem gX7_tell_X7_mayBeTold : GoodIn wsX7_tell (va_wsS RX7 92 yX7_mayBeTold wsX7_mayBeTold) := goodIn_app (goodIn_of _ (by decide +kernel)) ggX7_tell_X7_mayBeTold
set_option maxRecDepth 20000 in
theorem ggX7_tell_X4_valueToTell : GoodIn wsX7_tell wsX4_valueToTell := goodIn_r _ [18, 19, 20, 21, 109, 110, 111, 112, 113, 114, 115, 116, 117, 118, 119, 120, 121, 122, 123] (by decide +kernel) (by decide +kernel)
set_option maxRecDepth 20000 in
theorem gX7_tell_X4_valueToTell : GoodIn wsX7_tell (wsV RX7 100 RX4 yX4_valueToTell wsX4_valueToTell) := goodIn_app (goodIn_of _ (by decide +kernel)) ggX7_tell_X4_valueToTell
set_option maxRecDepth 20000 in
theorem ggX7_tell_X2_keep : GoodIn wsX7_tell wsX2_keep := goodIn_r _ [26, 27, 28, 29, 30, 31, 32, 33, 34, 35, 36, 7, 37, 38, 39, 9, 40, 41, 42, 43, 44, 17, 45, 46, 47, 48, 21, 49, 19, 50, 20, 51, 52, 53, 54, 55, 56, 57, 58, 59, 60, 61, 62, 63, 64, 65, 66, 67, 68, 69, 70, 71, 124, 125, 126, 103, 104, 105, 106, 107, 108, 109, 110, 111, 112, 113, 114, 115, 116, 117, 118, 119, 120, 121, 122, 123, 127, 128, 129, 130, 131] (by decide +kernel) (by decide +kernel)
set_option maxRecDepth 20000 in
theorem gX7_tell_X2_keep : GoodIn wsX7_tell (wsV RX7 83 RX2 yX2_keep wsX2_keep) := goodIn_app (goodIn_of _ (by decide +kernel)) ggX7_tell_X2_keep
set_option maxRecDepth 20000 in
theorem ggX7_tell_X4_takeTold : GoodIn wsX7_tell wsX4_takeTold := goodIn_r _ [75, 19, 20, 21, 109, 110, 111, 112, 113, 114, 115, 116, 117, 118, 119, 120, 121, 122, 123] (by decide +kernel) (by decide +kernel)
set_option maxRecDepth 20000 in
theorem gX7_tell_X4_takeTold : GoodIn wsX7_tell (wsV RX7 106 RX4 yX4_takeTold wsX4_takeTold) := goodIn_app (goodIn_of _ (by decide +kernel)) ggX7_tell_X4_takeTold
set_option maxRecDepth 20000 in
theorem ggX7_tell_X1_reckon : GoodIn wsX7_tell wsX1_reckon := goodIn_r _ [79, 9, 38, 80, 81, 40, 82, 83, 84, 85, 86, 17, 87, 20, 46, 88, 12, 89, 90, 91, 92, 7, 93, 94, 95, 96, 103, 104, 105, 106, 107, 108, 109, 110, 111, 112, 113, 114, 115, 116, 117, 118, 119, 120, 121, 122, 123] (by decide +kernel) (by decide +kernel)
set_option maxRecDepth 20000 in
theorem gX7_tell_X1_reckon : GoodIn wsX7_tell (wsV RX7 86 RX1 yX1_reckon wsX1_reckon) := goodIn_app (goodIn_of _ (by decide +kernel)) ggX7_tell_X1_reckon
theorem dX7_tell_0 : decode cX7_tell 0 = .ok (.aload_n 0, 1) := by decide +kernel
theorem dX7_tell_1 : decode cX7_tell 1 = .ok (.getfield 19, 3) := by decide +kernel
theorem dX7_tell_4 : decode cX7_tell 4 = .ok (.iload_n 1, 1) := by decide +kernel
theorem dX7_tell_5 : decode cX7_tell 5 = .ok (.invokevirtual 89, 3) := by decide +kernel
theorem dX7_tell_8 : decode cX7_tell 8 = .ok (.ifCond .eq 11, 3) := by decide +kernel
theorem dX7_tell_11 : decode cX7_tell 11 = .ok (.iload_n 2, 1) := by decide +kernel
theorem dX7_tell_12 : decode cX7_tell 12 = .ok (.iload_n 3, 1) := by decide +kernel
theorem dX7_tell_13 : decode cX7_tell 13 = .ok (.invokestatic 92, 3) := by decide +kernel
theorem dX7_tell_16 : decode cX7_tell 16 = .ok (.ifCond .ne 5, 3) := by decide +kernel
theorem dX7_tell_19 : decode cX7_tell 19 = .ok (.iconst (-1), 1) := by decide +kernel
theorem dX7_tell_20 : decode cX7_tell 20 = .ok (.ireturn, 1) := by decide +kernel
theorem dX7_tell_21 : decode cX7_tell 21 = .ok (.aload_n 0, 1) := by decide +kernel
theorem dX7_tell_22 : decode cX7_tell 22 = .ok (.getfield 19, 3) := by decide +kernel
theorem dX7_tell_25 : decode cX7_tell 25 = .ok (.getfield 96, 3) := by decide +kernel
theorem dX7_tell_28 : decode cX7_tell 28 = .ok (.iload_n 1, 1) := by decide +kernel
theorem dX7_tell_29 : decode cX7_tell 29 = .ok (.aaload, 1) := by decide +kernel
theorem dX7_tell_30 : decode cX7_tell 30 = .ok (.astore 4, 2) := by decide +kernel
theorem dX7_tell_32 : decode cX7_tell 32 = .ok (.aload 4, 2) := by decide +kernel
theorem dX7_tell_34 : decode cX7_tell 34 = .ok (.iload_n 2, 1) := by decide +kernel
theorem dX7_tell_35 : decode cX7_tell 35 = .ok (.invokevirtual 100, 3) := by decide +kernel
theorem dX7_tell_38 : decode cX7_tell 38 = .ok (.istore 5, 2) := by decide +kernel
theorem dX7_tell_40 : decode cX7_tell 40 = .ok (.iload 5, 2) := by decide +kernel
theorem dX7_tell_42 : decode cX7_tell 42 = .ok (.iload_n 3, 1) := by decide +kernel
theorem dX7_tell_43 : decode cX7_tell 43 = .ok (.if_icmp .ne 6, 3) := by decide +kernel
theorem dX7_tell_46 : decode cX7_tell 46 = .ok (.bipush (-2), 2) := by decide +kernel
theorem dX7_tell_48 : decode cX7_tell 48 = .ok (.ireturn, 1) := by decide +kernel
theorem dX7_tell_49 : decode cX7_tell 49 = .ok (.aload_n 0, 1) := by decide +kernel
theorem dX7_tell_50 : decode cX7_tell 50 = .ok (.getfield 29, 3) := by decide +kernel
theorem dX7_tell_53 : decode cX7_tell 53 = .ok (.aload_n 0, 1) := by decide +kernel
theorem dX7_tell_54 : decode cX7_tell 54 = .ok (.getfield 19, 3) := by decide +kernel
theorem dX7_tell_57 : decode cX7_tell 57 = .ok (.invokevirtual 83, 3) := by decide +kernel
theorem dX7_tell_60 : decode cX7_tell 60 = .ok (.aload 4, 2) := by decide +kernel
theorem dX7_tell_62 : decode cX7_tell 62 = .ok (.iload_n 2, 1) := by decide +kernel
theorem dX7_tell_63 : decode cX7_tell 63 = .ok (.iload_n 3, 1) := by decide +kernel
theorem dX7_tell_64 : decode cX7_tell 64 = .ok (.invokevirtual 106, 3) := by decide +kernel
theorem dX7_tell_67 : decode cX7_tell 67 = .ok (.aload_n 0, 1) := by decide +kernel
theorem dX7_tell_68 : decode cX7_tell 68 = .ok (.getfield 19, 3) := by decide +kernel
theorem dX7_tell_71 : decode cX7_tell 71 = .ok (.invokevirtual 86, 3) := by decide +kernel
theorem dX7_tell_74 : decode cX7_tell 74 = .ok (.iload 5, 2) := by decide +kernel
theorem dX7_tell_76 : decode cX7_tell 76 = .ok (.ireturn, 1) := by decide +kernel
set_option maxRecDepth 20000 in
theorem ggX7_stick_X1_has : GoodIn wsX7_stick wsX1_has := goodIn_r _ [9, 10, 76, 77, 78, 79, 80, 81] (by decide +kernel) (by decide +kernel)
set_option maxRecDepth 20000 in
theorem gX7_stick_X1_has : GoodIn wsX7_stick (wsV RX7 89 RX1 yX1_has wsX1_has) := goodIn_app (goodIn_of _ (by decide +kernel)) ggX7_stick_X1_has
set_option maxRecDepth 20000 in
theorem ggX7_stick_X2_keep : GoodIn wsX7_stick wsX2_keep := goodIn_r _ [15, 16, 17, 18, 19, 20, 21, 22, 23, 24, 25, 8, 26, 27, 28, 10, 29, 30, 31, 32, 33, 34, 35, 36, 37, 38, 39, 40, 41, 42, 43, 44, 45, 46, 47, 48, 49, 50, 51, 52, 53, 54, 55, 56, 57, 58, 59, 60, 61, 62, 63, 64, 97, 98, 99, 76, 77, 78, 79, 80, 81, 82, 83, 84, 85, 86, 87, 88, 89, 90, 91, 92, 93, 94, 95, 96, 100, 101, 102, 103, 104] (by decide +kernel) (by decide +kernel)
set_option maxRecDepth 20000 in
theorem gX7_stick_X2_keep : GoodIn wsX7_stick (wsV RX7 83 RX2 yX2_keep wsX2_keep) := goodIn_app (goodIn_of _ (by decide +kernel)) ggX7_stick_X2_keep
set_option maxRecDepth 20000 in
theorem ggX7_stick_X1_stuckStages : GoodIn wsX7_stick wsX1_stuckStages := goodIn_r _ [68, 10, 27, 69, 76, 77, 78, 79, 80, 81, 82, 83, 84, 85, 86, 87, 88, 89, 90, 91, 92, 93, 94, 95, 96] (by decide +kernel) (by decide +kernel)
set_option maxRecDepth 20000 in
theorem gX7_stick_X1_stuckStages : GoodIn wsX7_stick (wsV RX7 114 RX1 yX1_stuckStages wsX1_stuckStages) := goodIn_app (goodIn_of _ (by decide +kernel)) ggX7_stick_X1_stuckStages
theorem dX7_stick_0 : decode cX7_stick 0 = .ok (.aload_n 0, 1) := by decide +kernel
theorem dX7_stick_1 : decode cX7_stick 1 = .ok (.getfield 19, 3) := by decide +kernel
theorem dX7_stick_4 : decode cX7_stick 4 = .ok (.iload_n 1, 1) := by decide +kernel
theorem dX7_stick_5 : decode cX7_stick 5 = .ok (.invokevirtual 89, 3) := by decide +kernel
theorem dX7_stick_8 : decode cX7_stick 8 = .ok (.ifCond .eq 12, 3) := by decide +kernel
theorem dX7_stick_11 : decode cX7_stick 11 = .ok (.iload_n 2, 1) := by decide +kernel
theorem dX7_stick_12 : decode cX7_stick 12 = .ok (.ifCond .lt 8, 3) := by decide +kernel
theorem dX7_stick_15 : decode cX7_stick 15 = .ok (.iload_n 2, 1) := by decide +kernel
theorem dX7_stick_16 : decode cX7_stick 16 = .ok (.iconst 1, 1) := by decide +kernel
theorem dX7_stick_17 : decode cX7_stick 17 = .ok (.if_icmp .le 5, 3) := by decide +kernel
theorem dX7_stick_20 : decode cX7_stick 20 = .ok (.iconst (-1), 1) := by decide +kernel
theorem dX7_stick_21 : decode cX7_stick 21 = .ok (.ireturn, 1) := by decide +kernel
theorem dX7_stick_22 : decode cX7_stick 22 = .ok (.iload_n 2, 1) := by decide +kernel
theorem dX7_stick_23 : decode cX7_stick 23 = .ok (.iconst 1, 1) := by decide +kernel
theorem dX7_stick_24 : decode cX7_stick 24 = .ok (.if_icmp .ne 7, 3) := by decide +kernel
theorem dX7_stick_27 : decode cX7_stick 27 = .ok (.iconst 1, 1) := by decide +kernel
theorem dX7_stick_28 : decode cX7_stick 28 = .ok (.goto 4, 3) := by decide +kernel
theorem dX7_stick_31 : decode cX7_stick 31 = .ok (.iconst 0, 1) := by decide +kernel
theorem dX7_stick_32 : decode cX7_stick 32 = .ok (.istore_n 3, 1) := by decide +kernel
theorem dX7_stick_33 : decode cX7_stick 33 = .ok (.aload_n 0, 1) := by decide +kernel
theorem dX7_stick_34 : decode cX7_stick 34 = .ok (.getfield 19, 3) := by decide +kernel
theorem dX7_stick_37 : decode cX7_stick 37 = .ok (.getfield 96, 3) := by decide +kernel
theorem dX7_stick_40 : decode cX7_stick 40 = .ok (.iload_n 1, 1) := by decide +kernel
theorem dX7_stick_41 : decode cX7_stick 41 = .ok (.aaload, 1) := by decide +kernel
theorem dX7_stick_42 : decode cX7_stick 42 = .ok (.getfield 110, 3) := by decide +kernel
theorem dX7_stick_45 : decode cX7_stick 45 = .ok (.iload_n 3, 1) := by decide +kernel
theorem dX7_stick_46 : decode cX7_stick 46 = .ok (.if_icmp .ne 6, 3) := by decide +kernel
theorem dX7_stick_49 : decode cX7_stick 49 = .ok (.bipush (-2), 2) := by decide +kernel
theorem dX7_stick_51 : decode cX7_stick 51 = .ok (.ireturn, 1) := by decide +kernel
theorem dX7_stick_52 : decode cX7_stick 52 = .ok (.aload_n 0, 1) := by decide +kernel
theorem dX7_stick_53 : decode cX7_stick 53 = .ok (.getfield 29, 3) := by decide +kernel
theorem dX7_stick_56 : decode cX7_stick 56 = .ok (.aload_n 0, 1) := by decide +kernel
theorem dX7_stick_57 : decode cX7_stick 57 = .ok (.getfield 19, 3) := by decide +kernel
theorem dX7_stick_60 : decode cX7_stick 60 = .ok (.invokevirtual 83, 3) := by decide +kernel
theorem dX7_stick_63 : decode cX7_stick 63 = .ok (.aload_n 0, 1) := by decide +kernel
theorem dX7_stick_64 : decode cX7_stick 64 = .ok (.getfield 19, 3) := by decide +kernel
theorem dX7_stick_67 : decode cX7_stick 67 = .ok (.getfield 96, 3) := by decide +kernel
theorem dX7_stick_70 : decode cX7_stick 70 = .ok (.iload_n 1, 1) := by decide +kernel
theorem dX7_stick_71 : decode cX7_stick 71 = .ok (.aaload, 1) := by decide +kernel
theorem dX7_stick_72 : decode cX7_stick 72 = .ok (.iload_n 3, 1) := by decide +kernel
theorem dX7_stick_73 : decode cX7_stick 73 = .ok (.putfield 110, 3) := by decide +kernel
theorem dX7_stick_76 : decode cX7_stick 76 = .ok (.aload_n 0, 1) := by decide +kernel
theorem dX7_stick_77 : decode cX7_stick 77 = .ok (.getfield 19, 3) := by decide +kernel
theorem dX7_stick_80 : decode cX7_stick 80 = .ok (.invokevirtual 114, 3) := by decide +kernel
theorem dX7_stick_83 : decode cX7_stick 83 = .ok (.ireturn, 1) := by decide +kernel
set_option maxRecDepth 20000 in
theorem ggX7_tick_X2_keep : GoodIn wsX7_tick wsX2_keep := goodIn_r _ [10, 11, 12, 13, 14, 15, 16, 17, 18, 19, 20, 21, 22, 23, 24, 25, 26, 27, 28, 29, 30, 31, 32, 33, 34, 35, 36, 37, 38, 39, 40, 41, 42, 43, 44, 45, 46, 47, 48, 49, 50, 51, 52, 53, 54, 55, 56, 57, 58, 59, 60, 61, 145, 146, 147, 134, 135, 136, 137, 138, 139, 148, 149, 150, 151, 152, 153, 154, 155, 156, 157, 158, 159, 160, 161, 162, 140, 141, 142, 143, 144] (by decide +kernel) (by decide +kernel)
set_option maxRecDepth 20000 in
theorem gX7_tick_X2_keep : GoodIn wsX7_tick (wsV RX7 83 RX2 yX2_keep wsX2_keep) := goodIn_app (goodIn_of _ (by decide +kernel)) ggX7_tick_X2_keep
set_option maxRecDepth 20000 in
theorem ggX7_tick_X1_runTick : GoodIn wsX7_tick wsX1_runTick := goodIn_r _ [65, 25, 23, 66, 67, 68, 27, 69, 70, 71, 31, 72, 41, 42, 73, 74, 75, 76, 45, 37, 77, 78, 79, 80, 47, 34, 35, 81, 82, 83, 21, 84, 85, 86, 87, 88, 44, 40, 89, 90, 91, 92, 93, 94, 95, 96, 97, 98, 24, 99, 100, 101, 102, 103, 104, 51, 105, 60, 53, 58, 59, 106, 107, 108, 109, 110, 111, 26, 112, 113, 114, 115, 116, 117, 33, 118, 119, 120, 121, 122, 123, 124, 125, 126, 127, 134, 135, 136, 137, 138, 139, 148, 149, 150, 151, 152, 153, 154, 155, 156, 157, 158, 159, 160, 161, 162, 140, 141, 142, 143, 144] (by decide +kernel) (by decide +kernel)
set_option maxRecDepth 20000 in
theorem gX7_tick_X1_runTick : GoodIn wsX7_tick (wsV RX7 129 RX1 yX1_runTick wsX1_runTick) := goodIn_app (goodIn_of _ (by decide +kernel)) ggX7_tick_X1_runTick
theorem dX7_tick_0 : decode cX7_tick 0 = .ok (.iload_n 1, 1) := by decide +kernel
theorem dX7_tick_1 : decode cX7_tick 1 = .ok (.iconst 1, 1) := by decide +kernel
theorem dX7_tick_2 : decode cX7_tick 2 = .ok (.if_icmp .lt 9, 3) := by decide +kernel
theorem dX7_tick_5 : decode cX7_tick 5 = .ok (.iload_n 1, 1) := by decide +kernel
theorem dX7_tick_6 : decode cX7_tick 6 = .ok (.bipush 50, 2) := by decide +kernel
theorem dX7_tick_8 : decode cX7_tick 8 = .ok (.if_icmp .le 5, 3) := by decide +kernel
theorem dX7_tick_11 : decode cX7_tick 11 = .ok (.iconst (-1), 1) := by decide +kernel
theorem dX7_tick_12 : decode cX7_tick 12 = .ok (.ireturn, 1) := by decide +kernel
theorem dX7_tick_13 : decode cX7_tick 13 = .ok (.aload_n 0, 1) := by decide +kernel
theorem dX7_tick_14 : decode cX7_tick 14 = .ok (.getfield 19, 3) := by decide +kernel
theorem dX7_tick_17 : decode cX7_tick 17 = .ok (.getfield 117, 3) := by decide +kernel
theorem dX7_tick_20 : decode cX7_tick 20 = .ok (.iload_n 1, 1) := by decide +kernel
theorem dX7_tick_21 : decode cX7_tick 21 = .ok (.iadd, 1) := by decide +kernel
theorem dX7_tick_22 : decode cX7_tick 22 = .ok (.sipush 9999, 3) := by decide +kernel
theorem dX7_tick_25 : decode cX7_tick 25 = .ok (.if_icmp .le 6, 3) := by decide +kernel
theorem dX7_tick_28 : decode cX7_tick 28 = .ok (.bipush (-2), 2) := by decide +kernel
theorem dX7_tick_30 : decode cX7_tick 30 = .ok (.ireturn, 1) := by decide +kernel
theorem dX7_tick_31 : decode cX7_tick 31 = .ok (.aload_n 0, 1) := by decide +kernel
theorem dX7_tick_32 : decode cX7_tick 32 = .ok (.getfield 29, 3) := by decide +kernel
theorem dX7_tick_35 : decode cX7_tick 35 = .ok (.aload_n 0, 1) := by decide +kernel
theorem dX7_tick_36 : decode cX7_tick 36 = .ok (.getfield 19, 3) := by decide +kernel
theorem dX7_tick_39 : decode cX7_tick 39 = .ok (.invokevirtual 83, 3) := by decide +kernel
theorem dX7_tick_42 : decode cX7_tick 42 = .ok (.aload_n 0, 1) := by decide +kernel
theorem dX7_tick_43 : decode cX7_tick 43 = .ok (.getfield 19, 3) := by decide +kernel
theorem dX7_tick_46 : decode cX7_tick 46 = .ok (.getfield 120, 3) := by decide +kernel
theorem dX7_tick_49 : decode cX7_tick 49 = .ok (.getfield 124, 3) := by decide +kernel
theorem dX7_tick_52 : decode cX7_tick 52 = .ok (.istore_n 2, 1) := by decide +kernel
theorem dX7_tick_53 : decode cX7_tick 53 = .ok (.iconst 0, 1) := by decide +kernel
theorem dX7_tick_54 : decode cX7_tick 54 = .ok (.istore_n 3, 1) := by decide +kernel
theorem dX7_tick_55 : decode cX7_tick 55 = .ok (.iload_n 3, 1) := by decide +kernel
theorem dX7_tick_56 : decode cX7_tick 56 = .ok (.iload_n 1, 1) := by decide +kernel
theorem dX7_tick_57 : decode cX7_tick 57 = .ok (.if_icmp .ge 16, 3) := by decide +kernel
theorem dX7_tick_60 : decode cX7_tick 60 = .ok (.aload_n 0, 1) := by decide +kernel
theorem dX7_tick_61 : decode cX7_tick 61 = .ok (.getfield 19, 3) := by decide +kernel
theorem dX7_tick_64 : decode cX7_tick 64 = .ok (.invokevirtual 129, 3) := by decide +kernel
theorem dX7_tick_67 : decode cX7_tick 67 = .ok (.iinc 3 1, 3) := by decide +kernel
theorem dX7_tick_70 : decode cX7_tick 70 = .ok (.goto (-15), 3) := by decide +kernel
theorem dX7_tick_73 : decode cX7_tick 73 = .ok (.aload_n 0, 1) := by decide +kernel
theorem dX7_tick_74 : decode cX7_tick 74 = .ok (.getfield 19, 3) := by decide +kernel
theorem dX7_tick_77 : decode cX7_tick 77 = .ok (.getfield 120, 3) := by decide +kernel
theorem dX7_tick_80 : decode cX7_tick 80 = .ok (.getfield 124, 3) := by decide +kernel
theorem dX7_tick_83 : decode cX7_tick 83 = .ok (.iload_n 2, 1) := by decide +kernel
theorem dX7_tick_84 : decode cX7_tick 84 = .ok (.isub, 1) := by decide +kernel
theorem dX7_tick_85 : decode cX7_tick 85 = .ok (.ireturn, 1) := by decide +kernel
set_option maxRecDepth 20000 in
theorem ggX7_undo_X2_giveBack : GoodIn wsX7_undo wsX2_giveBack := goodIn_r _ [8, 9, 10, 11, 12, 13, 14, 15, 16, 17, 18, 19, 20, 21, 22, 23, 24, 25, 26, 27, 28, 29, 30, 31, 32, 33, 34, 35, 36, 37, 38, 39, 40, 41, 42, 43, 44, 45, 46, 47, 48, 49, 50, 51, 52, 53, 54, 55, 62, 63, 64, 65, 66, 67, 68, 69, 70, 71, 72, 73, 74, 75, 76, 77, 78, 79, 80, 81, 82, 83, 84, 85, 86, 87, 88, 89, 90] (by decide +kernel) (by decide +kernel)
set_option maxRecDepth 20000 in
theorem gX7_undo_X2_giveBack : GoodIn wsX7_undo (wsV RX7 133 RX2 yX2_giveBack wsX2_giveBack) := goodIn_app (goodIn_of _ (by decide +kernel)) ggX7_undo_X2_giveBack
theorem dX7_undo_0 : decode cX7_undo 0 = .ok (.aload_n 0, 1) := by decide +kernel
theorem dX7_undo_1 : decode cX7_undo 1 = .ok (.getfield 29, 3) := by decide +kernel
theorem dX7_undo_4 : decode cX7_undo 4 = .ok (.getfield 132, 3) := by decide +kernel
theorem dX7_undo_7 : decode cX7_undo 7 = .ok (.ifCond .ne 6, 3) := by decide +kernel
theorem dX7_undo_10 : decode cX7_undo 10 = .ok (.bipush (-2), 2) := by decide +kernel
theorem dX7_undo_12 : decode cX7_undo 12 = .ok (.ireturn, 1) := by decide +kernel
theorem dX7_undo_13 : decode cX7_undo 13 = .ok (.aload_n 0, 1) := by decide +kernel
theorem dX7_undo_14 : decode cX7_undo 14 = .ok (.getfield 29, 3) := by decide +kernel
theorem dX7_undo_17 : decode cX7_undo 17 = .ok (.aload_n 0, 1) := by decide +kernel
theorem dX7_undo_18 : decode cX7_undo 18 = .ok (.getfield 19, 3) := by decide +kernel
theorem dX7_undo_21 : decode cX7_undo 21 = .ok (.invokevirtual 133, 3) := by decide +kernel
theorem dX7_undo_24 : decode cX7_undo 24 = .ok (.aload_n 0, 1) := by decide +kernel
theorem dX7_undo_25 : decode cX7_undo 25 = .ok (.getfield 29, 3) := by decide +kernel
theorem dX7_undo_28 : decode cX7_undo 28 = .ok (.getfield 132, 3) := by decide +kernel
theorem dX7_undo_31 : decode cX7_undo 31 = .ok (.ireturn, 1) := by decide +kernel
set_option maxRecDepth 20000 in
theorem ggX7_stage_X1_has : GoodIn wsX7_stage wsX1_has := goodIn_r _ [7, 8, 45, 46, 47, 48, 49, 50] (by decide +kernel) (by decide +kernel)
set_option maxRecDepth 20000 in
theorem gX7_stage_X1_has : GoodIn wsX7_stage (wsV RX7 89 RX1 yX1_has wsX1_has) := goodIn_app (goodIn_of _ (by decide +kernel)) ggX7_stage_X1_has
set_option maxRecDepth 20000 in
theorem ggX7_stage_X4_valueOf : GoodIn wsX7_stage wsX4_valueOf := goodIn_r _ [13, 14, 15, 16, 17, 18, 19, 20, 21, 22, 23, 24, 25, 26, 27, 28, 29, 12, 30, 31, 32, 33, 34, 35, 36, 37, 38, 51, 52, 53, 54, 55, 56, 57, 58, 59, 60, 61, 62, 63, 64, 65] (by decide +kernel) (by decide +kernel)
set_option maxRecDepth 20000 in
theorem gX7_stage_X4_valueOf : GoodIn wsX7_stage (wsV RX7 136 RX4 yX4_valueOf wsX4_valueOf) := goodIn_app (goodIn_of _ (by decide +kernel)) ggX7_stage_X4_valueOf
theorem dX7_stage_0 : decode cX7_stage 0 = .ok (.aload_n 0, 1) := by decide +kernel
theorem dX7_stage_1 : decode cX7_stage 1 = .ok (.getfield 19, 3) := by decide +kernel
theorem dX7_stage_4 : decode cX7_stage 4 = .ok (.iload_n 1, 1) := by decide +kernel
theorem dX7_stage_5 : decode cX7_stage 5 = .ok (.invokevirtual 89, 3) := by decide +kernel
theorem dX7_stage_8 : decode cX7_stage 8 = .ok (.ifCond .eq 19, 3) := by decide +kernel
theorem dX7_stage_11 : decode cX7_stage 11 = .ok (.aload_n 0, 1) := by decide +kernel
theorem dX7_stage_12 : decode cX7_stage 12 = .ok (.getfield 19, 3) := by decide +kernel
theorem dX7_stage_15 : decode cX7_stage 15 = .ok (.getfield 96, 3) := by decide +kernel
theorem dX7_stage_18 : decode cX7_stage 18 = .ok (.iload_n 1, 1) := by decide +kernel
theorem dX7_stage_19 : decode cX7_stage 19 = .ok (.aaload, 1) := by decide +kernel
theorem dX7_stage_20 : decode cX7_stage 20 = .ok (.iload_n 2, 1) := by decide +kernel
theorem dX7_stage_21 : decode cX7_stage 21 = .ok (.invokevirtual 136, 3) := by decide +kernel
theorem dX7_stage_24 : decode cX7_stage 24 = .ok (.goto 4, 3) := by decide +kernel
theorem dX7_stage_27 : decode cX7_stage 27 = .ok (.iconst (-1), 1) := by decide +kernel
theorem dX7_stage_28 : decode cX7_stage 28 = .ok (.ireturn, 1) := by decide +kernel
set_option maxRecDepth 20000 in
theorem ggX7_done_X5_valueOf : GoodIn wsX7_done wsX5_valueOf := goodIn_r _ [7, 8, 9, 10, 11, 12, 13, 14, 6, 15, 16, 17, 18, 19, 32, 33, 34, 35, 36] (by decide +kernel) (by decide +kernel)
set_option maxRecDepth 20000 in
theorem gX7_done_X5_valueOf : GoodIn wsX7_done (wsV RX7 139 RX5 yX5_valueOf wsX5_valueOf) := goodIn_app (goodIn_of _ (by decide +kernel)) ggX7_done_X5_valueOf
theorem dX7_done_0 : decode cX7_done 0 = .ok (.iload_n 1, 1) := by decide +kernel
theorem dX7_done_1 : decode cX7_done 1 = .ok (.ifCond .lt 12, 3) := by decide +kernel
theorem dX7_done_4 : decode cX7_done 4 = .ok (.iload_n 2, 1) := by decide +kernel
theorem dX7_done_5 : decode cX7_done 5 = .ok (.ifCond .lt 8, 3) := by decide +kernel
theorem dX7_done_8 : decode cX7_done 8 = .ok (.iload_n 2, 1) := by decide +kernel
theorem dX7_done_9 : decode cX7_done 9 = .ok (.iconst 2, 1) := by decide +kernel
theorem dX7_done_10 : decode cX7_done 10 = .ok (.if_icmp .le 5, 3) := by decide +kernel
theorem dX7_done_13 : decode cX7_done 13 = .ok (.iconst (-1), 1) := by decide +kernel
theorem dX7_done_14 : decode cX7_done 14 = .ok (.ireturn, 1) := by decide +kernel
theorem dX7_done_15 : decode cX7_done 15 = .ok (.aload_n 0, 1) := by decide +kernel
theorem dX7_done_16 : decode cX7_done 16 = .ok (.getfield 19, 3) := by decide +kernel
theorem dX7_done_19 : decode cX7_done 19 = .ok (.getfield 120, 3) := by decide +kernel
theorem dX7_done_22 : decode cX7_done 22 = .ok (.iload_n 1, 1) := by decide +kernel
theorem dX7_done_23 : decode cX7_done 23 = .ok (.iload_n 2, 1) := by decide +kernel
theorem dX7_done_24 : decode cX7_done 24 = .ok (.invokevirtual 139, 3) := by decide +kernel
theorem dX7_done_27 : decode cX7_done 27 = .ok (.ireturn, 1) := by decide +kernel
set_option maxRecDepth 20000 in
theorem ggX7_settle_X0_follow : GoodIn wsX7_settle wsX0_follow := goodIn_r _ [11, 12, 13, 14, 15, 16, 17, 18, 19, 20, 21, 22, 23, 24, 25, 26, 27, 28, 29, 30, 31, 32, 33, 34, 35, 36, 37, 38, 39, 40, 41, 42, 43, 44, 45, 46, 47, 48, 49, 50, 51, 52, 53, 54, 55, 56, 57, 58, 59, 60, 61, 62, 63, 64, 65, 66, 67, 68, 69, 70, 71, 72, 73, 74, 75, 76, 77, 78, 79, 80, 81, 82, 83, 84, 85, 86, 87, 88, 89, 90, 10, 91, 92, 93, 94, 95, 96, 97, 98, 99, 100, 101, 102, 103, 104, 105, 106, 107, 108, 109, 110, 111, 112, 113, 114, 115, 116, 117, 118, 119, 120, 121, 122, 123, 124, 125, 126, 127, 128, 129, 130, 131, 132, 133, 134, 135, 136, 137, 138, 139, 140, 141, 142, 149, 150, 151, 152, 153, 154, 155, 156, 157, 158, 159, 160, 161, 162, 163, 164, 165, 166, 167, 168, 169, 170, 171, 172, 173, 174, 175, 176, 177, 178, 179, 180, 181] (by decide +kernel) (by decide +kernel)
set_option maxRecDepth 20000 in
theorem gX7_settle_X0_follow : GoodIn wsX7_settle (wsV RX7 142 RX0 yX0_follow wsX0_follow) := goodIn_app (goodIn_of _ (by decide +kernel)) ggX7_settle_X0_follow
theorem dX7_settle_0 : decode cX7_settle 0 = .ok (.iload_n 1, 1) := by decide +kernel
theorem dX7_settle_1 : decode cX7_settle 1 = .ok (.ifCond .lt 8, 3) := by decide +kernel
theorem dX7_settle_4 : decode cX7_settle 4 = .ok (.iload_n 1, 1) := by decide +kernel
theorem dX7_settle_5 : decode cX7_settle 5 = .ok (.iconst 3, 1) := by decide +kernel
theorem dX7_settle_6 : decode cX7_settle 6 = .ok (.if_icmp .le 5, 3) := by decide +kernel
theorem dX7_settle_9 : decode cX7_settle 9 = .ok (.iconst (-1), 1) := by decide +kernel
theorem dX7_settle_10 : decode cX7_settle 10 = .ok (.ireturn, 1) := by decide +kernel
theorem dX7_settle_11 : decode cX7_settle 11 = .ok (.aload_n 0, 1) := by decide +kernel
theorem dX7_settle_12 : decode cX7_settle 12 = .ok (.getfield 36, 3) := by decide +kernel
theorem dX7_settle_15 : decode cX7_settle 15 = .ok (.aload_n 0, 1) := by decide +kernel
theorem dX7_settle_16 : decode cX7_settle 16 = .ok (.getfield 19, 3) := by decide +kernel
theorem dX7_settle_19 : decode cX7_settle 19 = .ok (.invokevirtual 142, 3) := by decide +kernel
theorem dX7_settle_22 : decode cX7_settle 22 = .ok (.iload_n 1, 1) := by decide +kernel
theorem dX7_settle_23 : decode cX7_settle 23 = .ok (.tableswitch 49 0 2 #[25, 33, 41], 25) := by decide +kernel
theorem dX7_settle_48 : decode cX7_settle 48 = .ok (.aload_n 0, 1) := by decide +kernel
theorem dX7_settle_49 : decode cX7_settle 49 = .ok (.getfield 36, 3) := by decide +kernel
theorem dX7_settle_52 : decode cX7_settle 52 = .ok (.getfield 145, 3) := by decide +kernel
theorem dX7_settle_55 : decode cX7_settle 55 = .ok (.ireturn, 1) := by decide +kernel
theorem dX7_settle_56 : decode cX7_settle 56 = .ok (.aload_n 0, 1) := by decide +kernel
theorem dX7_settle_57 : decode cX7_settle 57 = .ok (.getfield 36, 3) := by decide +kernel
theorem dX7_settle_60 : decode cX7_settle 60 = .ok (.getfield 148, 3) := by decide +kernel
theorem dX7_settle_63 : decode cX7_settle 63 = .ok (.ireturn, 1) := by decide +kernel
theorem dX7_settle_64 : decode cX7_settle 64 = .ok (.aload_n 0, 1) := by decide +kernel
theorem dX7_settle_65 : decode cX7_settle 65 = .ok (.getfield 36, 3) := by decide +kernel
theorem dX7_settle_68 : decode cX7_settle 68 = .ok (.getfield 151, 3) := by decide +kernel
theorem dX7_settle_71 : decode cX7_settle 71 = .ok (.ireturn, 1) := by decide +kernel
theorem dX7_settle_72 : decode cX7_settle 72 = .ok (.aload_n 0, 1) := by decide +kernel
theorem dX7_settle_73 : decode cX7_settle 73 = .ok (.getfield 36, 3) := by decide +kernel
theorem dX7_settle_76 : decode cX7_settle 76 = .ok (.getfield 154, 3) := by decide +kernel
theorem dX7_settle_79 : decode cX7_settle 79 = .ok (.ireturn, 1) := by decide +kernel
set_option maxRecDepth 20000 in
theorem ggX7_best_X1_has : GoodIn wsX7_best wsX1_has := goodIn_r _ [9, 10, 59, 60, 61, 62, 63, 64] (by decide +kernel) (by decide +kernel)
set_option maxRecDepth 20000 in
theorem gX7_best_X1_has : GoodIn wsX7_best (wsV RX7 89 RX1 yX1_has wsX1_has) := goodIn_app (goodIn_of _ (by decide +kernel)) ggX7_best_X1_has
set_option maxRecDepth 20000 in
theorem ggX7_best_X3_start : GoodIn wsX7_best wsX3_start := goodIn_r _ [15, 16, 17, 18, 19, 20, 14, 21, 22, 23, 24, 25, 26, 27, 28, 29, 30, 31, 32, 33, 34, 35, 36, 37, 38, 39, 40, 41, 42, 43, 8, 44, 10, 45, 46, 47, 48, 49, 56, 57, 58, 59, 60, 61, 62, 63, 64, 65, 66, 67, 68, 69, 70, 71, 72, 73, 74, 75, 76, 77, 78, 79] (by decide +kernel) (by decide +kernel)
set_option maxRecDepth 20000 in
theorem gX7_best_X3_start : GoodIn wsX7_best (wsV RX7 157 RX3 yX3_start wsX3_start) := goodIn_app (goodIn_of _ (by decide +kernel)) ggX7_best_X3_start
theorem dX7_best_0 : decode cX7_best 0 = .ok (.iload_n 1, 1) := by decide +kernel
theorem dX7_best_1 : decode cX7_best 1 = .ok (.iconst (-1), 1) := by decide +kernel
theorem dX7_best_2 : decode cX7_best 2 = .ok (.if_icmp .eq 16, 3) := by decide +kernel
theorem dX7_best_5 : decode cX7_best 5 = .ok (.aload_n 0, 1) := by decide +kernel
theorem dX7_best_6 : decode cX7_best 6 = .ok (.getfield 19, 3) := by decide +kernel
theorem dX7_best_9 : decode cX7_best 9 = .ok (.iload_n 1, 1) := by decide +kernel
theorem dX7_best_10 : decode cX7_best 10 = .ok (.invokevirtual 89, 3) := by decide +kernel
theorem dX7_best_13 : decode cX7_best 13 = .ok (.ifCond .ne 5, 3) := by decide +kernel
theorem dX7_best_16 : decode cX7_best 16 = .ok (.iconst (-1), 1) := by decide +kernel
theorem dX7_best_17 : decode cX7_best 17 = .ok (.ireturn, 1) := by decide +kernel
theorem dX7_best_18 : decode cX7_best 18 = .ok (.aload_n 0, 1) := by decide +kernel
theorem dX7_best_19 : decode cX7_best 19 = .ok (.getfield 43, 3) := by decide +kernel
theorem dX7_best_22 : decode cX7_best 22 = .ok (.aload_n 0, 1) := by decide +kernel
theorem dX7_best_23 : decode cX7_best 23 = .ok (.getfield 19, 3) := by decide +kernel
theorem dX7_best_26 : decode cX7_best 26 = .ok (.invokevirtual 157, 3) := by decide +kernel
theorem dX7_best_29 : decode cX7_best 29 = .ok (.iload_n 1, 1) := by decide +kernel
theorem dX7_best_30 : decode cX7_best 30 = .ok (.iconst (-1), 1) := by decide +kernel
theorem dX7_best_31 : decode cX7_best 31 = .ok (.if_icmp .ne 13, 3) := by decide +kernel
theorem dX7_best_34 : decode cX7_best 34 = .ok (.aload_n 0, 1) := by decide +kernel
theorem dX7_best_35 : decode cX7_best 35 = .ok (.getfield 43, 3) := by decide +kernel
theorem dX7_best_38 : decode cX7_best 38 = .ok (.getfield 160, 3) := by decide +kernel
theorem dX7_best_41 : decode cX7_best 41 = .ok (.goto 16, 3) := by decide +kernel
theorem dX7_best_44 : decode cX7_best 44 = .ok (.aload_n 0, 1) := by decide +kernel
theorem dX7_best_45 : decode cX7_best 45 = .ok (.getfield 43, 3) := by decide +kernel
theorem dX7_best_48 : decode cX7_best 48 = .ok (.getfield 163, 3) := by decide +kernel
theorem dX7_best_51 : decode cX7_best 51 = .ok (.iload_n 1, 1) := by decide +kernel
theorem dX7_best_52 : decode cX7_best 52 = .ok (.iaload, 1) := by decide +kernel
theorem dX7_best_53 : decode cX7_best 53 = .ok (.sipush 1000, 3) := by decide +kernel
theorem dX7_best_56 : decode cX7_best 56 = .ok (.iadd, 1) := by decide +kernel
theorem dX7_best_57 : decode cX7_best 57 = .ok (.ireturn, 1) := by decide +kernel
set_option maxRecDepth 20000 in
theorem ggX7_ratio_X1_has : GoodIn wsX7_ratio wsX1_has := goodIn_r _ [9, 10, 28, 29, 30, 31, 32, 33] (by decide +kernel) (by decide +kernel)
set_option maxRecDepth 20000 in
theorem gX7_ratio_X1_has : GoodIn wsX7_ratio (wsV RX7 89 RX1 yX1_has wsX1_has) := goodIn_app (goodIn_of _ (by decide +kernel)) ggX7_ratio_X1_has
set_option maxRecDepth 20000 in
theorem ggX7_ratio_X4_turned : GoodIn wsX7_ratio wsX4_turned := goodIn_r _ [15, 16, 17, 34, 35, 36, 37, 38, 39, 40, 41, 42, 43, 44, 45, 46, 47, 48] (by decide +kernel) (by decide +kernel)
set_option maxRecDepth 20000 in
theorem gX7_ratio_X4_turned : GoodIn wsX7_ratio (wsV RX7 169 RX4 yX4_turned wsX4_turned) := goodIn_app (goodIn_of _ (by decide +kernel)) ggX7_ratio_X4_turned
set_option maxRecDepth 20000 in
theorem ggX7_ratio_X7_greatestCommon : GoodIn wsX7_ratio wsX7_greatestCommon := goodIn_r _ [21] (by decide +kernel) (by decide +kernel)
set_option maxRecDepth 20000 in
theorem gX7_ratio_X7_greatestCommon : GoodIn wsX7_ratio (va_wsS RX7 174 yX7_greatestCommon wsX7_greatestCommon) := goodIn_app (goodIn_of _ (by decide +kernel)) ggX7_ratio_X7_greatestCommon
theorem dX7_ratio_0 : decode cX7_ratio 0 = .ok (.aload_n 0, 1) := by decide +kernel
theorem dX7_ratio_1 : decode cX7_ratio 1 = .ok (.getfield 19, 3) := by decide +kernel
theorem dX7_ratio_4 : decode cX7_ratio 4 = .ok (.iload_n 1, 1) := by decide +kernel
theorem dX7_ratio_5 : decode cX7_ratio 5 = .ok (.invokevirtual 89, 3) := by decide +kernel
theorem dX7_ratio_8 : decode cX7_ratio 8 = .ok (.ifCond .eq 12, 3) := by decide +kernel
theorem dX7_ratio_11 : decode cX7_ratio 11 = .ok (.iload_n 2, 1) := by decide +kernel
theorem dX7_ratio_12 : decode cX7_ratio 12 = .ok (.ifCond .lt 8, 3) := by decide +kernel
theorem dX7_ratio_15 : decode cX7_ratio 15 = .ok (.iload_n 2, 1) := by decide +kernel
theorem dX7_ratio_16 : decode cX7_ratio 16 = .ok (.iconst 1, 1) := by decide +kernel
theorem dX7_ratio_17 : decode cX7_ratio 17 = .ok (.if_icmp .le 7, 3) := by decide +kernel
theorem dX7_ratio_20 : decode cX7_ratio 20 = .ok (.ldc2_w 167, 3) := by decide +kernel
theorem dX7_ratio_23 : decode cX7_ratio 23 = .ok (.lreturn, 1) := by decide +kernel
theorem dX7_ratio_24 : decode cX7_ratio 24 = .ok (.lconst 1, 1) := by decide +kernel
theorem dX7_ratio_25 : decode cX7_ratio 25 = .ok (.lstore_n 3, 1) := by decide +kernel
theorem dX7_ratio_26 : decode cX7_ratio 26 = .ok (.lconst 1, 1) := by decide +kernel
theorem dX7_ratio_27 : decode cX7_ratio 27 = .ok (.lstore 5, 2) := by decide +kernel
theorem dX7_ratio_29 : decode cX7_ratio 29 = .ok (.iconst 0, 1) := by decide +kernel
theorem dX7_ratio_30 : decode cX7_ratio 30 = .ok (.istore 7, 2) := by decide +kernel
theorem dX7_ratio_32 : decode cX7_ratio 32 = .ok (.iload 7, 2) := by decide +kernel
theorem dX7_ratio_34 : decode cX7_ratio 34 = .ok (.iload_n 1, 1) := by decide +kernel
theorem dX7_ratio_35 : decode cX7_ratio 35 = .ok (.if_icmp .gt 34, 3) := by decide +kernel
theorem dX7_ratio_38 : decode cX7_ratio 38 = .ok (.lload_n 3, 1) := by decide +kernel
theorem dX7_ratio_39 : decode cX7_ratio 39 = .ok (.aload_n 0, 1) := by decide +kernel
theorem dX7_ratio_40 : decode cX7_ratio 40 = .ok (.getfield 19, 3) := by decide +kernel
theorem dX7_ratio_43 : decode cX7_ratio 43 = .ok (.getfield 96, 3) := by decide +kernel
theorem dX7_ratio_46 : decode cX7_ratio 46 = .ok (.iload 7, 2) := by decide +kernel
theorem dX7_ratio_48 : decode cX7_ratio 48 = .ok (.aaload, 1) := by decide +kernel
theorem dX7_ratio_49 : decode cX7_ratio 49 = .ok (.invokevirtual 169, 3) := by decide +kernel
theorem dX7_ratio_52 : decode cX7_ratio 52 = .ok (.i2l, 1) := by decide +kernel
theorem dX7_ratio_53 : decode cX7_ratio 53 = .ok (.lmul, 1) := by decide +kernel
theorem dX7_ratio_54 : decode cX7_ratio 54 = .ok (.lstore_n 3, 1) := by decide +kernel
theorem dX7_ratio_55 : decode cX7_ratio 55 = .ok (.lload 5, 2) := by decide +kernel
theorem dX7_ratio_57 : decode cX7_ratio 57 = .ok (.ldc2_w 172, 3) := by decide +kernel
theorem dX7_ratio_60 : decode cX7_ratio 60 = .ok (.lmul, 1) := by decide +kernel
theorem dX7_ratio_61 : decode cX7_ratio 61 = .ok (.lstore 5, 2) := by decide +kernel
theorem dX7_ratio_63 : decode cX7_ratio 63 = .ok (.iinc 7 1, 3) := by decide +kernel
theorem dX7_ratio_66 : decode cX7_ratio 66 = .ok (.goto (-34), 3) := by decide +kernel
theorem dX7_ratio_69 : decode cX7_ratio 69 = .ok (.lload_n 3, 1) := by decide +kernel
theorem dX7_ratio_70 : decode cX7_ratio 70 = .ok (.lload 5, 2) := by decide +kernel
theorem dX7_ratio_72 : decode cX7_ratio 72 = .ok (.invokestatic 174, 3) := by decide +kernel
theorem dX7_ratio_75 : decode cX7_ratio 75 = .ok (.lstore 7, 2) := by decide +kernel
theorem dX7_ratio_77 : decode cX7_ratio 77 = .ok (.lload 7, 2) := by decide +kernel
theorem dX7_ratio_79 : decode cX7_ratio 79 = .ok (.lconst 1, 1) := by decide +kernel
theorem dX7_ratio_80 : decode cX7_ratio 80 = .ok (.lcmp, 1) := by decide +kernel
theorem dX7_ratio_81 : decode cX7_ratio 81 = .ok (.ifCond .ge 7, 3) := by decide +kernel
theorem dX7_ratio_84 : decode cX7_ratio 84 = .ok (.ldc2_w 167, 3) := by decide +kernel
theorem dX7_ratio_87 : decode cX7_ratio 87 = .ok (.lreturn, 1) := by decide +kernel
theorem dX7_ratio_88 : decode cX7_ratio 88 = .ok (.iload_n 2, 1) := by decide +kernel
theorem dX7_ratio_89 : decode cX7_ratio 89 = .ok (.ifCond .ne 7, 3) := by decide +kernel
theorem dX7_ratio_92 : decode cX7_ratio 92 = .ok (.lload_n 3, 1) := by decide +kernel
theorem dX7_ratio_93 : decode cX7_ratio 93 = .ok (.goto 5, 3) := by decide +kernel
theorem dX7_ratio_96 : decode cX7_ratio 96 = .ok (.lload 5, 2) := by decide +kernel
theorem dX7_ratio_98 : decode cX7_ratio 98 = .ok (.lload 7, 2) := by decide +kernel
theorem dX7_ratio_100 : decode cX7_ratio 100 = .ok (.ldiv, 1) := by decide +kernel
theorem dX7_ratio_101 : decode cX7_ratio 101 = .ok (.lreturn, 1) := by decide +kernel
set_option maxRecDepth 20000 in
theorem ggX7_graded_X7_isGrade : GoodIn wsX7_graded wsX7_isGrade := goodIn_r _ [8] (by decide +kernel) (by decide +kernel)
set_option maxRecDepth 20000 in
theorem gX7_graded_X7_isGrade : GoodIn wsX7_graded (va_wsS RX7 178 yX7_isGrade wsX7_isGrade) := goodIn_app (goodIn_of _ (by decide +kernel)) ggX7_graded_X7_isGrade
theorem dX7_graded_0 : decode cX7_graded 0 = .ok (.iload_n 1, 1) := by decide +kernel
theorem dX7_graded_1 : decode cX7_graded 1 = .ok (.invokestatic 178, 3) := by decide +kernel
theorem dX7_graded_4 : decode cX7_graded 4 = .ok (.ifCond .ne 5, 3) := by decide +kernel
theorem dX7_graded_7 : decode cX7_graded 7 = .ok (.iconst (-1), 1) := by decide +kernel
theorem dX7_graded_8 : decode cX7_graded 8 = .ok (.ireturn, 1) := by decide +kernel
theorem dX7_graded_9 : decode cX7_graded 9 = .ok (.iconst 1, 1) := by decide +kernel
theorem dX7_graded_10 : decode cX7_graded 10 = .ok (.istore_n 2, 1) := by decide +kernel
theorem dX7_graded_11 : decode cX7_graded 11 = .ok (.iload_n 2, 1) := by decide +kernel
theorem dX7_graded_12 : decode cX7_graded 12 = .ok (.aload_n 0, 1) := by decide +kernel
theorem dX7_graded_13 : decode cX7_graded 13 = .ok (.getfield 19, 3) := by decide +kernel
theorem dX7_graded_16 : decode cX7_graded 16 = .ok (.getfield 74, 3) := by decide +kernel
theorem dX7_graded_19 : decode cX7_graded 19 = .ok (.if_icmp .ge 42, 3) := by decide +kernel
theorem dX7_graded_22 : decode cX7_graded 22 = .ok (.aload_n 0, 1) := by decide +kernel
theorem dX7_graded_23 : decode cX7_graded 23 = .ok (.getfield 19, 3) := by decide +kernel
theorem dX7_graded_26 : decode cX7_graded 26 = .ok (.getfield 96, 3) := by decide +kernel
theorem dX7_graded_29 : decode cX7_graded 29 = .ok (.iload_n 2, 1) := by decide +kernel
theorem dX7_graded_30 : decode cX7_graded 30 = .ok (.aaload, 1) := by decide +kernel
theorem dX7_graded_31 : decode cX7_graded 31 = .ok (.getfield 181, 3) := by decide +kernel
theorem dX7_graded_34 : decode cX7_graded 34 = .ok (.aload_n 0, 1) := by decide +kernel
theorem dX7_graded_35 : decode cX7_graded 35 = .ok (.getfield 19, 3) := by decide +kernel
theorem dX7_graded_38 : decode cX7_graded 38 = .ok (.getfield 96, 3) := by decide +kernel
theorem dX7_graded_41 : decode cX7_graded 41 = .ok (.iload_n 2, 1) := by decide +kernel
theorem dX7_graded_42 : decode cX7_graded 42 = .ok (.iconst 1, 1) := by decide +kernel
theorem dX7_graded_43 : decode cX7_graded 43 = .ok (.isub, 1) := by decide +kernel
theorem dX7_graded_44 : decode cX7_graded 44 = .ok (.aaload, 1) := by decide +kernel
theorem dX7_graded_45 : decode cX7_graded 45 = .ok (.getfield 181, 3) := by decide +kernel
theorem dX7_graded_48 : decode cX7_graded 48 = .ok (.iload_n 1, 1) := by decide +kernel
theorem dX7_graded_49 : decode cX7_graded 49 = .ok (.iadd, 1) := by decide +kernel
theorem dX7_graded_50 : decode cX7_graded 50 = .ok (.if_icmp .ge 5, 3) := by decide +kernel
theorem dX7_graded_53 : decode cX7_graded 53 = .ok (.iconst 0, 1) := by decide +kernel
theorem dX7_graded_54 : decode cX7_graded 54 = .ok (.ireturn, 1) := by decide +kernel
theorem dX7_graded_55 : decode cX7_graded 55 = .ok (.iinc 2 1, 3) := by decide +kernel
theorem dX7_graded_58 : decode cX7_graded 58 = .ok (.goto (-47), 3) := by decide +kernel
theorem dX7_graded_61 : decode cX7_graded 61 = .ok (.iconst 1, 1) := by decide +kernel
theorem dX7_graded_62 : decode cX7_graded 62 = .ok (.ireturn, 1) := by decide +kernel
set_option maxRecDepth 20000 in
theorem ggX7_waits_X1_has : GoodIn wsX7_waits wsX1_has := goodIn_r _ [12, 13, 24, 25, 26, 27, 28, 29] (by decide +kernel) (by decide +kernel)
set_option maxRecDepth 20000 in
theorem gX7_waits_X1_has : GoodIn wsX7_waits (wsV RX7 89 RX1 yX1_has wsX1_has) := goodIn_app (goodIn_of _ (by decide +kernel)) ggX7_waits_X1_has
set_option maxRecDepth 20000 in
theorem ggX7_waits_X7_isGrade : GoodIn wsX7_waits wsX7_isGrade := goodIn_r _ [17] (by decide +kernel) (by decide +kernel)
set_option maxRecDepth 20000 in
theorem gX7_waits_X7_isGrade : GoodIn wsX7_waits (va_wsS RX7 178 yX7_isGrade wsX7_isGrade) := goodIn_app (goodIn_of _ (by decide +kernel)) ggX7_waits_X7_isGrade
theorem dX7_waits_0 : decode cX7_waits 0 = .ok (.aload_n 0, 1) := by decide +kernel
theorem dX7_waits_1 : decode cX7_waits 1 = .ok (.getfield 19, 3) := by decide +kernel
theorem dX7_waits_4 : decode cX7_waits 4 = .ok (.iload_n 1, 1) := by decide +kernel
theorem dX7_waits_5 : decode cX7_waits 5 = .ok (.invokevirtual 89, 3) := by decide +kernel
theorem dX7_waits_8 : decode cX7_waits 8 = .ok (.ifCond .eq 10, 3) := by decide +kernel
theorem dX7_waits_11 : decode cX7_waits 11 = .ok (.iload_n 2, 1) := by decide +kernel
theorem dX7_waits_12 : decode cX7_waits 12 = .ok (.invokestatic 178, 3) := by decide +kernel
theorem dX7_waits_15 : decode cX7_waits 15 = .ok (.ifCond .ne 5, 3) := by decide +kernel
theorem dX7_waits_18 : decode cX7_waits 18 = .ok (.iconst (-1), 1) := by decide +kernel
theorem dX7_waits_19 : decode cX7_waits 19 = .ok (.ireturn, 1) := by decide +kernel
theorem dX7_waits_20 : decode cX7_waits 20 = .ok (.aload_n 0, 1) := by decide +kernel
theorem dX7_waits_21 : decode cX7_waits 21 = .ok (.getfield 19, 3) := by decide +kernel
theorem dX7_waits_24 : decode cX7_waits 24 = .ok (.getfield 96, 3) := by decide +kernel
theorem dX7_waits_27 : decode cX7_waits 27 = .ok (.iconst 0, 1) := by decide +kernel
theorem dX7_waits_28 : decode cX7_waits 28 = .ok (.aaload, 1) := by decide +kernel
theorem dX7_waits_29 : decode cX7_waits 29 = .ok (.getfield 181, 3) := by decide +kernel
theorem dX7_waits_32 : decode cX7_waits 32 = .ok (.istore_n 3, 1) := by decide +kernel
theorem dX7_waits_33 : decode cX7_waits 33 = .ok (.iconst 1, 1) := by decide +kernel
theorem dX7_waits_34 : decode cX7_waits 34 = .ok (.istore 4, 2) := by decide +kernel
theorem dX7_waits_36 : decode cX7_waits 36 = .ok (.iload 4, 2) := by decide +kernel
theorem dX7_waits_38 : decode cX7_waits 38 = .ok (.iload_n 1, 1) := by decide +kernel
theorem dX7_waits_39 : decode cX7_waits 39 = .ok (.if_icmp .gt 29, 3) := by decide +kernel
theorem dX7_waits_42 : decode cX7_waits 42 = .ok (.aload_n 0, 1) := by decide +kernel
theorem dX7_waits_43 : decode cX7_waits 43 = .ok (.getfield 19, 3) := by decide +kernel
theorem dX7_waits_46 : decode cX7_waits 46 = .ok (.getfield 96, 3) := by decide +kernel
theorem dX7_waits_49 : decode cX7_waits 49 = .ok (.iload 4, 2) := by decide +kernel
theorem dX7_waits_51 : decode cX7_waits 51 = .ok (.aaload, 1) := by decide +kernel
theorem dX7_waits_52 : decode cX7_waits 52 = .ok (.getfield 181, 3) := by decide +kernel
theorem dX7_waits_55 : decode cX7_waits 55 = .ok (.iload_n 3, 1) := by decide +kernel
theorem dX7_waits_56 : decode cX7_waits 56 = .ok (.iload_n 2, 1) := by decide +kernel
theorem dX7_waits_57 : decode cX7_waits 57 = .ok (.iadd, 1) := by decide +kernel
theorem dX7_waits_58 : decode cX7_waits 58 = .ok (.invokestatic 184, 3) := by decide +kernel
theorem dX7_waits_61 : decode cX7_waits 61 = .ok (.istore_n 3, 1) := by decide +kernel
theorem dX7_waits_62 : decode cX7_waits 62 = .ok (.iinc 4 1, 3) := by decide +kernel
theorem dX7_waits_65 : decode cX7_waits 65 = .ok (.goto (-29), 3) := by decide +kernel
theorem dX7_waits_68 : decode cX7_waits 68 = .ok (.iload_n 3, 1) := by decide +kernel
theorem dX7_waits_69 : decode cX7_waits 69 = .ok (.ireturn, 1) := by decide +kernel
set_option maxRecDepth 20000 in
theorem ggX7_count_X1_goodStages : GoodIn wsX7_count wsX1_goodStages := goodIn_r _ [16, 17, 18, 19, 20, 21, 22, 23, 24, 25, 26, 89, 90, 91, 92, 93, 94, 107, 108, 109, 110, 111, 112, 113, 114, 115, 116, 117, 118, 119, 120, 121] (by decide +kernel) (by decide +kernel)
set_option maxRecDepth 20000 in
theorem gX7_count_X1_goodStages : GoodIn wsX7_count (wsV RX7 192 RX1 yX1_goodStages wsX1_goodStages) := goodIn_app (goodIn_of _ (by decide +kernel)) ggX7_count_X1_goodStages
set_option maxRecDepth 20000 in
theorem ggX7_count_X1_stuckStages : GoodIn wsX7_count wsX1_stuckStages := goodIn_r _ [30, 17, 18, 31, 89, 90, 91, 92, 93, 94, 107, 108, 109, 110, 111, 112, 113, 114, 115, 116, 117, 118, 119, 120, 121] (by decide +kernel) (by decide +kernel)
set_option maxRecDepth 20000 in
theorem gX7_count_X1_stuckStages : GoodIn wsX7_count (wsV RX7 114 RX1 yX1_stuckStages wsX1_stuckStages) := goodIn_app (goodIn_of _ (by decide +kernel)) ggX7_count_X1_stuckStages
set_option maxRecDepth 20000 in
theorem ggX7_count_X1_off : GoodIn wsX7_count wsX1_off := goodIn_r _ [35, 17, 18, 36, 37, 38, 22, 39, 24, 25, 40, 41, 42, 43, 89, 90, 91, 92, 93, 94, 107, 108, 109, 110, 111, 112, 113, 114, 115, 116, 117, 118, 119, 120, 121] (by decide +kernel) (by decide +kernel)
set_option maxRecDepth 20000 in
theorem gX7_count_X1_off : GoodIn wsX7_count (wsV RX7 195 RX1 yX1_off wsX1_off) := goodIn_app (goodIn_of _ (by decide +kernel)) ggX7_count_X1_off
set_option maxRecDepth 20000 in
theorem ggX7_count_X1_isQuiet : GoodIn wsX7_count wsX1_isQuiet := goodIn_r _ [47, 17, 18, 48, 49, 50, 22, 51, 52, 53, 54, 55, 56, 57, 58, 59, 60, 20, 21, 23, 24, 25, 26, 89, 90, 91, 92, 93, 94, 107, 108, 109, 110, 111, 112, 113, 114, 115, 116, 117, 118, 119, 120, 121] (by decide +kernel) (by decide +kernel)
set_option maxRecDepth 20000 in
theorem gX7_count_X1_isQuiet : GoodIn wsX7_count (wsV RX7 198 RX1 yX1_isQuiet wsX1_isQuiet) := goodIn_app (goodIn_of _ (by decide +kernel)) ggX7_count_X1_isQuiet
set_option maxRecDepth 20000 in
theorem ggX7_count_X5_unlikeTold : GoodIn wsX7_count wsX5_unlikeTold := goodIn_r _ [65, 66, 67, 68, 69, 70, 64, 71, 72, 73, 74, 42, 75, 76, 77, 78, 79, 80, 81, 82, 95, 96, 97, 98, 99] (by decide +kernel) (by decide +kernel)
set_option maxRecDepth 20000 in
theorem gX7_count_X5_unlikeTold : GoodIn wsX7_count (wsV RX7 202 RX5 yX5_unlikeTold wsX5_unlikeTold) := goodIn_app (goodIn_of _ (by decide +kernel)) ggX7_count_X5_unlikeTold
theorem dX7_count_0 : decode cX7_count 0 = .ok (.iload_n 1, 1) := by decide +kernel
theorem dX7_count_1 : decode cX7_count 1 = .ok (.tableswitch 176 0 11 #[63, 71, 79, 87, 98, 109, 117, 125, 133, 141, 149, 165], 63) := by decide +kernel
theorem dX7_count_64 : decode cX7_count 64 = .ok (.aload_n 0, 1) := by decide +kernel
theorem dX7_count_65 : decode cX7_count 65 = .ok (.getfield 19, 3) := by decide +kernel
theorem dX7_count_68 : decode cX7_count 68 = .ok (.getfield 74, 3) := by decide +kernel
theorem dX7_count_71 : decode cX7_count 71 = .ok (.ireturn, 1) := by decide +kernel
theorem dX7_count_72 : decode cX7_count 72 = .ok (.aload_n 0, 1) := by decide +kernel
theorem dX7_count_73 : decode cX7_count 73 = .ok (.getfield 19, 3) := by decide +kernel
theorem dX7_count_76 : decode cX7_count 76 = .ok (.getfield 80, 3) := by decide +kernel
theorem dX7_count_79 : decode cX7_count 79 = .ok (.ireturn, 1) := by decide +kernel
theorem dX7_count_80 : decode cX7_count 80 = .ok (.aload_n 0, 1) := by decide +kernel
theorem dX7_count_81 : decode cX7_count 81 = .ok (.getfield 19, 3) := by decide +kernel
theorem dX7_count_84 : decode cX7_count 84 = .ok (.getfield 117, 3) := by decide +kernel
theorem dX7_count_87 : decode cX7_count 87 = .ok (.ireturn, 1) := by decide +kernel
theorem dX7_count_88 : decode cX7_count 88 = .ok (.aload_n 0, 1) := by decide +kernel
theorem dX7_count_89 : decode cX7_count 89 = .ok (.getfield 19, 3) := by decide +kernel
theorem dX7_count_92 : decode cX7_count 92 = .ok (.getfield 120, 3) := by decide +kernel
theorem dX7_count_95 : decode cX7_count 95 = .ok (.getfield 124, 3) := by decide +kernel
theorem dX7_count_98 : decode cX7_count 98 = .ok (.ireturn, 1) := by decide +kernel
theorem dX7_count_99 : decode cX7_count 99 = .ok (.aload_n 0, 1) := by decide +kernel
theorem dX7_count_100 : decode cX7_count 100 = .ok (.getfield 19, 3) := by decide +kernel
theorem dX7_count_103 : decode cX7_count 103 = .ok (.getfield 120, 3) := by decide +kernel
theorem dX7_count_106 : decode cX7_count 106 = .ok (.getfield 189, 3) := by decide +kernel
theorem dX7_count_109 : decode cX7_count 109 = .ok (.ireturn, 1) := by decide +kernel
theorem dX7_count_110 : decode cX7_count 110 = .ok (.aload_n 0, 1) := by decide +kernel
theorem dX7_count_111 : decode cX7_count 111 = .ok (.getfield 19, 3) := by decide +kernel
theorem dX7_count_114 : decode cX7_count 114 = .ok (.invokevirtual 192, 3) := by decide +kernel
theorem dX7_count_117 : decode cX7_count 117 = .ok (.ireturn, 1) := by decide +kernel
theorem dX7_count_118 : decode cX7_count 118 = .ok (.aload_n 0, 1) := by decide +kernel
theorem dX7_count_119 : decode cX7_count 119 = .ok (.getfield 19, 3) := by decide +kernel
theorem dX7_count_122 : decode cX7_count 122 = .ok (.invokevirtual 114, 3) := by decide +kernel
theorem dX7_count_125 : decode cX7_count 125 = .ok (.ireturn, 1) := by decide +kernel
theorem dX7_count_126 : decode cX7_count 126 = .ok (.aload_n 0, 1) := by decide +kernel
theorem dX7_count_127 : decode cX7_count 127 = .ok (.getfield 19, 3) := by decide +kernel
theorem dX7_count_130 : decode cX7_count 130 = .ok (.invokevirtual 195, 3) := by decide +kernel
theorem dX7_count_133 : decode cX7_count 133 = .ok (.ireturn, 1) := by decide +kernel
theorem dX7_count_134 : decode cX7_count 134 = .ok (.aload_n 0, 1) := by decide +kernel
theorem dX7_count_135 : decode cX7_count 135 = .ok (.getfield 29, 3) := by decide +kernel
theorem dX7_count_138 : decode cX7_count 138 = .ok (.getfield 132, 3) := by decide +kernel
theorem dX7_count_141 : decode cX7_count 141 = .ok (.ireturn, 1) := by decide +kernel
theorem dX7_count_142 : decode cX7_count 142 = .ok (.aload_n 0, 1) := by decide +kernel
theorem dX7_count_143 : decode cX7_count 143 = .ok (.getfield 10, 3) := by decide +kernel
theorem dX7_count_146 : decode cX7_count 146 = .ok (.getfield 71, 3) := by decide +kernel
theorem dX7_count_149 : decode cX7_count 149 = .ok (.ireturn, 1) := by decide +kernel
theorem dX7_count_150 : decode cX7_count 150 = .ok (.aload_n 0, 1) := by decide +kernel
theorem dX7_count_151 : decode cX7_count 151 = .ok (.getfield 19, 3) := by decide +kernel
theorem dX7_count_154 : decode cX7_count 154 = .ok (.invokevirtual 198, 3) := by decide +kernel
theorem dX7_count_157 : decode cX7_count 157 = .ok (.ifCond .eq 7, 3) := by decide +kernel
theorem dX7_count_160 : decode cX7_count 160 = .ok (.iconst 1, 1) := by decide +kernel
theorem dX7_count_161 : decode cX7_count 161 = .ok (.goto 4, 3) := by decide +kernel
theorem dX7_count_164 : decode cX7_count 164 = .ok (.iconst 0, 1) := by decide +kernel
theorem dX7_count_165 : decode cX7_count 165 = .ok (.ireturn, 1) := by decide +kernel
theorem dX7_count_166 : decode cX7_count 166 = .ok (.aload_n 0, 1) := by decide +kernel
theorem dX7_count_167 : decode cX7_count 167 = .ok (.getfield 19, 3) := by decide +kernel
theorem dX7_count_170 : decode cX7_count 170 = .ok (.getfield 120, 3) := by decide +kernel
theorem dX7_count_173 : decode cX7_count 173 = .ok (.invokevirtual 202, 3) := by decide +kernel
theorem dX7_count_176 : decode cX7_count 176 = .ok (.ireturn, 1) := by decide +kernel
theorem dX7_count_177 : decode cX7_count 177 = .ok (.iconst (-1), 1) := by decide +kernel
theorem dX7_count_178 : decode cX7_count 178 = .ok (.ireturn, 1) := by decide +kernel
theorem dX7_isGrade_0 : decode cX7_isGrade 0 = .ok (.iload_n 0, 1) := by decide +kernel
theorem dX7_isGrade_1 : decode cX7_isGrade 1 = .ok (.ifCond .lt 13, 3) := by decide +kernel
theorem dX7_isGrade_4 : decode cX7_isGrade 4 = .ok (.iload_n 0, 1) := by decide +kernel
theorem dX7_isGrade_5 : decode cX7_isGrade 5 = .ok (.bipush 9, 2) := by decide +kernel
theorem dX7_isGrade_7 : decode cX7_isGrade 7 = .ok (.if_icmp .gt 7, 3) := by decide +kernel
theorem dX7_isGrade_10 : decode cX7_isGrade 10 = .ok (.iconst 1, 1) := by decide +kernel
theorem dX7_isGrade_11 : decode cX7_isGrade 11 = .ok (.goto 4, 3) := by decide +kernel
theorem dX7_isGrade_14 : decode cX7_isGrade 14 = .ok (.iconst 0, 1) := by decide +kernel
theorem dX7_isGrade_15 : decode cX7_isGrade 15 = .ok (.ireturn, 1) := by decide +kernel
theorem dX7_mayBeTold_0 : decode cX7_mayBeTold 0 = .ok (.iload_n 0, 1) := by decide +kernel
theorem dX7_mayBeTold_1 : decode cX7_mayBeTold 1 = .ok (.tableswitch 84 0 2 #[27, 47, 67], 27) := by decide +kernel
theorem dX7_mayBeTold_28 : decode cX7_mayBeTold 28 = .ok (.iload_n 1, 1) := by decide +kernel
theorem dX7_mayBeTold_29 : decode cX7_mayBeTold 29 = .ok (.sipush 950, 3) := by decide +kernel
theorem dX7_mayBeTold_32 : decode cX7_mayBeTold 32 = .ok (.if_icmp .lt 14, 3) := by decide +kernel
theorem dX7_mayBeTold_35 : decode cX7_mayBeTold 35 = .ok (.iload_n 1, 1) := by decide +kernel
theorem dX7_mayBeTold_36 : decode cX7_mayBeTold 36 = .ok (.sipush 1050, 3) := by decide +kernel
theorem dX7_mayBeTold_39 : decode cX7_mayBeTold 39 = .ok (.if_icmp .gt 7, 3) := by decide +kernel
theorem dX7_mayBeTold_42 : decode cX7_mayBeTold 42 = .ok (.iconst 1, 1) := by decide +kernel
theorem dX7_mayBeTold_43 : decode cX7_mayBeTold 43 = .ok (.goto 4, 3) := by decide +kernel
theorem dX7_mayBeTold_46 : decode cX7_mayBeTold 46 = .ok (.iconst 0, 1) := by decide +kernel
theorem dX7_mayBeTold_47 : decode cX7_mayBeTold 47 = .ok (.ireturn, 1) := by decide +kernel
theorem dX7_mayBeTold_48 : decode cX7_mayBeTold 48 = .ok (.iload_n 1, 1) := by decide +kernel
theorem dX7_mayBeTold_49 : decode cX7_mayBeTold 49 = .ok (.sipush 995, 3) := by decide +kernel
theorem dX7_mayBeTold_52 : decode cX7_mayBeTold 52 = .ok (.if_icmp .lt 14, 3) := by decide +kernel
theorem dX7_mayBeTold_55 : decode cX7_mayBeTold 55 = .ok (.iload_n 1, 1) := by decide +kernel
theorem dX7_mayBeTold_56 : decode cX7_mayBeTold 56 = .ok (.sipush 1005, 3) := by decide +kernel
theorem dX7_mayBeTold_59 : decode cX7_mayBeTold 59 = .ok (.if_icmp .gt 7, 3) := by decide +kernel
theorem dX7_mayBeTold_62 : decode cX7_mayBeTold 62 = .ok (.iconst 1, 1) := by decide +kernel
theorem dX7_mayBeTold_63 : decode cX7_mayBeTold 63 = .ok (.goto 4, 3) := by decide +kernel
theorem dX7_mayBeTold_66 : decode cX7_mayBeTold 66 = .ok (.iconst 0, 1) := by decide +kernel
theorem dX7_mayBeTold_67 : decode cX7_mayBeTold 67 = .ok (.ireturn, 1) := by decide +kernel
theorem dX7_mayBeTold_68 : decode cX7_mayBeTold 68 = .ok (.iload_n 1, 1) := by decide +kernel
theorem dX7_mayBeTold_69 : decode cX7_mayBeTold 69 = .ok (.iconst 1, 1) := by decide +kernel
theorem dX7_mayBeTold_70 : decode cX7_mayBeTold 70 = .ok (.if_icmp .lt 13, 3) := by decide +kernel
theorem dX7_mayBeTold_73 : decode cX7_mayBeTold 73 = .ok (.iload_n 1, 1) := by decide +kernel
theorem dX7_mayBeTold_74 : decode cX7_mayBeTold 74 = .ok (.bipush 9, 2) := by decide +kernel
theorem dX7_mayBeTold_76 : decode cX7_mayBeTold 76 = .ok (.if_icmp .gt 7, 3) := by decide +kernel
theorem dX7_mayBeTold_79 : decode cX7_mayBeTold 79 = .ok (.iconst 1, 1) := by decide +kernel
theorem dX7_mayBeTold_80 : decode cX7_mayBeTold 80 = .ok (.goto 4, 3) := by decide +kernel
theorem dX7_mayBeTold_83 : decode cX7_mayBeTold 83 = .ok (.iconst 0, 1) := by decide +kernel
theorem dX7_mayBeTold_84 : decode cX7_mayBeTold 84 = .ok (.ireturn, 1) := by decide +kernel
theorem dX7_mayBeTold_85 : decode cX7_mayBeTold 85 = .ok (.iconst 0, 1) := by decide +kernel
theorem dX7_mayBeTold_86 : decode cX7_mayBeTold 86 = .ok (.ireturn, 1) := by decide +kernel
theorem dX7_greatestCommon_0 : decode cX7_greatestCommon 0 = .ok (.iconst 0, 1) := by decide +kernel
theorem dX7_greatestCommon_1 : decode cX7_greatestCommon 1 = .ok (.istore 4, 2) := by decide +kernel
theorem dX7_greatestCommon_3 : decode cX7_greatestCommon 3 = .ok (.iload 4, 2) := by decide +kernel
theorem dX7_greatestCommon_5 : decode cX7_greatestCommon 5 = .ok (.bipush 100, 2) := by decide +kernel
theorem dX7_greatestCommon_7 : decode cX7_greatestCommon 7 = .ok (.if_icmp .ge 25, 3) := by decide +kernel
theorem dX7_greatestCommon_10 : decode cX7_greatestCommon 10 = .ok (.lload_n 2, 1) := by decide +kernel
theorem dX7_greatestCommon_11 : decode cX7_greatestCommon 11 = .ok (.lconst 0, 1) := by decide +kernel
theorem dX7_greatestCommon_12 : decode cX7_greatestCommon 12 = .ok (.lcmp, 1) := by decide +kernel
theorem dX7_greatestCommon_13 : decode cX7_greatestCommon 13 = .ok (.ifCond .eq 19, 3) := by decide +kernel
theorem dX7_greatestCommon_16 : decode cX7_greatestCommon 16 = .ok (.lload_n 0, 1) := by decide +kernel
theorem dX7_greatestCommon_17 : decode cX7_greatestCommon 17 = .ok (.lload_n 2, 1) := by decide +kernel
theorem dX7_greatestCommon_18 : decode cX7_greatestCommon 18 = .ok (.lrem, 1) := by decide +kernel
theorem dX7_greatestCommon_19 : decode cX7_greatestCommon 19 = .ok (.lstore 5, 2) := by decide +kernel
theorem dX7_greatestCommon_21 : decode cX7_greatestCommon 21 = .ok (.lload_n 2, 1) := by decide +kernel
theorem dX7_greatestCommon_22 : decode cX7_greatestCommon 22 = .ok (.lstore_n 0, 1) := by decide +kernel
theorem dX7_greatestCommon_23 : decode cX7_greatestCommon 23 = .ok (.lload 5, 2) := by decide +kernel
theorem dX7_greatestCommon_25 : decode cX7_greatestCommon 25 = .ok (.lstore_n 2, 1) := by decide +kernel
theorem dX7_greatestCommon_26 : decode cX7_greatestCommon 26 = .ok (.iinc 4 1, 3) := by decide +kernel
theorem dX7_greatestCommon_29 : decode cX7_greatestCommon 29 = .ok (.goto (-26), 3) := by decide +kernel
theorem dX7_greatestCommon_32 : decode cX7_greatestCommon 32 = .ok (.lload_n 0, 1) := by decide +kernel
theorem dX7_greatestCommon_33 : decode cX7_greatestCommon 33 = .ok (.lreturn, 1) := by decide +kernel
theorem dX7_outOf_0 : decode cX7_outOf 0 = .ok (.iload_n 0, 1) := by decide +kernel
theorem dX7_outOf_1 : decode cX7_outOf 1 = .ok (.iload_n 1, 1) := by decide +kernel
theorem dX7_outOf_2 : decode cX7_outOf 2 = .ok (.imul, 1) := by decide +kernel
theorem dX7_outOf_3 : decode cX7_outOf 3 = .ok (.sipush 1000, 3) := by decide +kernel
theorem dX7_outOf_6 : decode cX7_outOf 6 = .ok (.idiv, 1) := by decide +kernel
theorem dX7_outOf_7 : decode cX7_outOf 7 = .ok (.ireturn, 1) := by decide +kernel
theorem dX7_lostBetween_0 : decode cX7_lostBetween 0 = .ok (.iload_n 0, 1) := by decide +kernel
theorem dX7_lostBetween_1 : decode cX7_lostBetween 1 = .ok (.iload_n 1, 1) := by decide +kernel
theorem dX7_lostBetween_2 : decode cX7_lostBetween 2 = .ok (.imul, 1) := by decide +kernel
theorem dX7_lostBetween_3 : decode cX7_lostBetween 3 = .ok (.bipush 10, 2) := by decide +kernel
theorem dX7_lostBetween_5 : decode cX7_lostBetween 5 = .ok (.idiv, 1) := by decide +kernel
theorem dX7_lostBetween_6 : decode cX7_lostBetween 6 = .ok (.ireturn, 1) := by decide +kernel
