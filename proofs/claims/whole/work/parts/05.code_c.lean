set_option maxRecDepth 20000 in
theorem ggX8_init_X8_stands : GoodIn wsX8_init wsX8_stands := goodIn_r _ [26, 7, 27, 28, 29, 30, 31, 32, 33, 34, 35, 36, 37, 38, 39, 40, 41, 42, 43, 44, 45, 46, 47, 48, 49, 50] (by decide +kernel) (by decide +kernel)
set_option maxRecDepth 20000 in
theorem gX8_init_X8_stands : GoodIn wsX8_init (wsV RX8 55 RX8 yX8_stands wsX8_stands) := goodIn_app (goodIn_of _ (by decide +kernel)) ggX8_init_X8_stands
theorem dX8_init_0 : decode cX8_init 0 = .ok (.aload_n 0, 1) := by decide +kernel
theorem dX8_init_1 : decode cX8_init 1 = .ok (.invokespecial 1, 3) := by decide +kernel
theorem dX8_init_4 : decode cX8_init 4 = .ok (.aload_n 0, 1) := by decide +kernel
theorem dX8_init_5 : decode cX8_init 5 = .ok (.sipush 200, 3) := by decide +kernel
theorem dX8_init_8 : decode cX8_init 8 = .ok (.newarray .byte, 2) := by decide +kernel
theorem dX8_init_10 : decode cX8_init 10 = .ok (.putfield 7, 3) := by decide +kernel
theorem dX8_init_13 : decode cX8_init 13 = .ok (.aload_n 0, 1) := by decide +kernel
theorem dX8_init_14 : decode cX8_init 14 = .ok (.bipush 114, 2) := by decide +kernel
theorem dX8_init_16 : decode cX8_init 16 = .ok (.newarray .int, 2) := by decide +kernel
theorem dX8_init_18 : decode cX8_init 18 = .ok (.putfield 13, 3) := by decide +kernel
theorem dX8_init_21 : decode cX8_init 21 = .ok (.aload_n 0, 1) := by decide +kernel
theorem dX8_init_22 : decode cX8_init 22 = .ok (.bipush 114, 2) := by decide +kernel
theorem dX8_init_24 : decode cX8_init 24 = .ok (.newarray .int, 2) := by decide +kernel
theorem dX8_init_26 : decode cX8_init 26 = .ok (.putfield 17, 3) := by decide +kernel
theorem dX8_init_29 : decode cX8_init 29 = .ok (.aload_n 0, 1) := by decide +kernel
theorem dX8_init_30 : decode cX8_init 30 = .ok (.sipush 684, 3) := by decide +kernel
theorem dX8_init_33 : decode cX8_init 33 = .ok (.newarray .int, 2) := by decide +kernel
theorem dX8_init_35 : decode cX8_init 35 = .ok (.putfield 20, 3) := by decide +kernel
theorem dX8_init_38 : decode cX8_init 38 = .ok (.aload_n 0, 1) := by decide +kernel
theorem dX8_init_39 : decode cX8_init 39 = .ok (.iconst 4, 1) := by decide +kernel
theorem dX8_init_40 : decode cX8_init 40 = .ok (.newarray .int, 2) := by decide +kernel
theorem dX8_init_42 : decode cX8_init 42 = .ok (.putfield 23, 3) := by decide +kernel
theorem dX8_init_45 : decode cX8_init 45 = .ok (.aload_n 0, 1) := by decide +kernel
theorem dX8_init_46 : decode cX8_init 46 = .ok (.iconst 4, 1) := by decide +kernel
theorem dX8_init_47 : decode cX8_init 47 = .ok (.newarray .int, 2) := by decide +kernel
theorem dX8_init_49 : decode cX8_init 49 = .ok (.putfield 26, 3) := by decide +kernel
theorem dX8_init_52 : decode cX8_init 52 = .ok (.aload_n 0, 1) := by decide +kernel
theorem dX8_init_53 : decode cX8_init 53 = .ok (.iconst 4, 1) := by decide +kernel
theorem dX8_init_54 : decode cX8_init 54 = .ok (.newarray .int, 2) := by decide +kernel
theorem dX8_init_56 : decode cX8_init 56 = .ok (.putfield 29, 3) := by decide +kernel
theorem dX8_init_59 : decode cX8_init 59 = .ok (.aload_n 0, 1) := by decide +kernel
theorem dX8_init_60 : decode cX8_init 60 = .ok (.iconst 4, 1) := by decide +kernel
theorem dX8_init_61 : decode cX8_init 61 = .ok (.newarray .int, 2) := by decide +kernel
theorem dX8_init_63 : decode cX8_init 63 = .ok (.putfield 32, 3) := by decide +kernel
theorem dX8_init_66 : decode cX8_init 66 = .ok (.aload_n 0, 1) := by decide +kernel
theorem dX8_init_67 : decode cX8_init 67 = .ok (.iconst 4, 1) := by decide +kernel
theorem dX8_init_68 : decode cX8_init 68 = .ok (.newarray .boolean, 2) := by decide +kernel
theorem dX8_init_70 : decode cX8_init 70 = .ok (.putfield 35, 3) := by decide +kernel
theorem dX8_init_73 : decode cX8_init 73 = .ok (.aload_n 0, 1) := by decide +kernel
theorem dX8_init_74 : decode cX8_init 74 = .ok (.iconst 4, 1) := by decide +kernel
theorem dX8_init_75 : decode cX8_init 75 = .ok (.newarray .boolean, 2) := by decide +kernel
theorem dX8_init_77 : decode cX8_init 77 = .ok (.putfield 39, 3) := by decide +kernel
theorem dX8_init_80 : decode cX8_init 80 = .ok (.aload_n 0, 1) := by decide +kernel
theorem dX8_init_81 : decode cX8_init 81 = .ok (.sipush 301, 3) := by decide +kernel
theorem dX8_init_84 : decode cX8_init 84 = .ok (.newarray .long, 2) := by decide +kernel
theorem dX8_init_86 : decode cX8_init 86 = .ok (.putfield 42, 3) := by decide +kernel
theorem dX8_init_89 : decode cX8_init 89 = .ok (.aload_n 0, 1) := by decide +kernel
theorem dX8_init_90 : decode cX8_init 90 = .ok (.sipush 301, 3) := by decide +kernel
theorem dX8_init_93 : decode cX8_init 93 = .ok (.newarray .int, 2) := by decide +kernel
theorem dX8_init_95 : decode cX8_init 95 = .ok (.putfield 46, 3) := by decide +kernel
theorem dX8_init_98 : decode cX8_init 98 = .ok (.aload_n 0, 1) := by decide +kernel
theorem dX8_init_99 : decode cX8_init 99 = .ok (.bipush 114, 2) := by decide +kernel
theorem dX8_init_101 : decode cX8_init 101 = .ok (.newarray .int, 2) := by decide +kernel
theorem dX8_init_103 : decode cX8_init 103 = .ok (.putfield 49, 3) := by decide +kernel
theorem dX8_init_106 : decode cX8_init 106 = .ok (.aload_n 0, 1) := by decide +kernel
theorem dX8_init_107 : decode cX8_init 107 = .ok (.iconst 4, 1) := by decide +kernel
theorem dX8_init_108 : decode cX8_init 108 = .ok (.newarray .int, 2) := by decide +kernel
theorem dX8_init_110 : decode cX8_init 110 = .ok (.putfield 52, 3) := by decide +kernel
theorem dX8_init_113 : decode cX8_init 113 = .ok (.aload_n 0, 1) := by decide +kernel
theorem dX8_init_114 : decode cX8_init 114 = .ok (.getfield 13, 3) := by decide +kernel
theorem dX8_init_117 : decode cX8_init 117 = .ok (.iconst 0, 1) := by decide +kernel
theorem dX8_init_118 : decode cX8_init 118 = .ok (.iconst 4, 1) := by decide +kernel
theorem dX8_init_119 : decode cX8_init 119 = .ok (.iastore, 1) := by decide +kernel
theorem dX8_init_120 : decode cX8_init 120 = .ok (.aload_n 0, 1) := by decide +kernel
theorem dX8_init_121 : decode cX8_init 121 = .ok (.getfield 13, 3) := by decide +kernel
theorem dX8_init_124 : decode cX8_init 124 = .ok (.iconst 1, 1) := by decide +kernel
theorem dX8_init_125 : decode cX8_init 125 = .ok (.sipush 1010, 3) := by decide +kernel
theorem dX8_init_128 : decode cX8_init 128 = .ok (.iastore, 1) := by decide +kernel
theorem dX8_init_129 : decode cX8_init 129 = .ok (.aload_n 0, 1) := by decide +kernel
theorem dX8_init_130 : decode cX8_init 130 = .ok (.iconst 0, 1) := by decide +kernel
theorem dX8_init_131 : decode cX8_init 131 = .ok (.bipush 10, 2) := by decide +kernel
theorem dX8_init_133 : decode cX8_init 133 = .ok (.sipush 1000, 3) := by decide +kernel
theorem dX8_init_136 : decode cX8_init 136 = .ok (.bipush 12, 2) := by decide +kernel
theorem dX8_init_138 : decode cX8_init 138 = .ok (.iconst 2, 1) := by decide +kernel
theorem dX8_init_139 : decode cX8_init 139 = .ok (.iconst 0, 1) := by decide +kernel
theorem dX8_init_140 : decode cX8_init 140 = .ok (.bipush 20, 2) := by decide +kernel
theorem dX8_init_142 : decode cX8_init 142 = .ok (.bipush 8, 2) := by decide +kernel
theorem dX8_init_144 : decode cX8_init 144 = .ok (.invokevirtual 55, 3) := by decide +kernel
theorem dX8_init_147 : decode cX8_init 147 = .ok (.aload_n 0, 1) := by decide +kernel
theorem dX8_init_148 : decode cX8_init 148 = .ok (.iconst 1, 1) := by decide +kernel
theorem dX8_init_149 : decode cX8_init 149 = .ok (.bipush 15, 2) := by decide +kernel
theorem dX8_init_151 : decode cX8_init 151 = .ok (.sipush 1000, 3) := by decide +kernel
theorem dX8_init_154 : decode cX8_init 154 = .ok (.bipush 16, 2) := by decide +kernel
theorem dX8_init_156 : decode cX8_init 156 = .ok (.iconst 3, 1) := by decide +kernel
theorem dX8_init_157 : decode cX8_init 157 = .ok (.iconst 2, 1) := by decide +kernel
theorem dX8_init_158 : decode cX8_init 158 = .ok (.bipush 15, 2) := by decide +kernel
theorem dX8_init_160 : decode cX8_init 160 = .ok (.bipush 9, 2) := by decide +kernel
theorem dX8_init_162 : decode cX8_init 162 = .ok (.invokevirtual 55, 3) := by decide +kernel
theorem dX8_init_165 : decode cX8_init 165 = .ok (.aload_n 0, 1) := by decide +kernel
theorem dX8_init_166 : decode cX8_init 166 = .ok (.iconst 2, 1) := by decide +kernel
theorem dX8_init_167 : decode cX8_init 167 = .ok (.bipush 20, 2) := by decide +kernel
theorem dX8_init_169 : decode cX8_init 169 = .ok (.sipush 990, 3) := by decide +kernel
theorem dX8_init_172 : decode cX8_init 172 = .ok (.bipush 25, 2) := by decide +kernel
theorem dX8_init_174 : decode cX8_init 174 = .ok (.iconst 5, 1) := by decide +kernel
theorem dX8_init_175 : decode cX8_init 175 = .ok (.iconst 1, 1) := by decide +kernel
theorem dX8_init_176 : decode cX8_init 176 = .ok (.bipush (-12), 2) := by decide +kernel
theorem dX8_init_178 : decode cX8_init 178 = .ok (.bipush 6, 2) := by decide +kernel
theorem dX8_init_180 : decode cX8_init 180 = .ok (.invokevirtual 55, 3) := by decide +kernel
theorem dX8_init_183 : decode cX8_init 183 = .ok (.aload_n 0, 1) := by decide +kernel
theorem dX8_init_184 : decode cX8_init 184 = .ok (.iconst 3, 1) := by decide +kernel
theorem dX8_init_185 : decode cX8_init 185 = .ok (.bipush 12, 2) := by decide +kernel
theorem dX8_init_187 : decode cX8_init 187 = .ok (.sipush 985, 3) := by decide +kernel
theorem dX8_init_190 : decode cX8_init 190 = .ok (.bipush 20, 2) := by decide +kernel
theorem dX8_init_192 : decode cX8_init 192 = .ok (.bipush 6, 2) := by decide +kernel
theorem dX8_init_194 : decode cX8_init 194 = .ok (.iconst 0, 1) := by decide +kernel
theorem dX8_init_195 : decode cX8_init 195 = .ok (.bipush 18, 2) := by decide +kernel
theorem dX8_init_197 : decode cX8_init 197 = .ok (.iconst 4, 1) := by decide +kernel
theorem dX8_init_198 : decode cX8_init 198 = .ok (.invokevirtual 55, 3) := by decide +kernel
theorem dX8_init_201 : decode cX8_init 201 = .ok (.return_, 1) := by decide +kernel
theorem dX8_stands_0 : decode cX8_stands 0 = .ok (.bipush 6, 2) := by decide +kernel
theorem dX8_stands_2 : decode cX8_stands 2 = .ok (.bipush 12, 2) := by decide +kernel
theorem dX8_stands_4 : decode cX8_stands 4 = .ok (.iload_n 1, 1) := by decide +kernel
theorem dX8_stands_5 : decode cX8_stands 5 = .ok (.imul, 1) := by decide +kernel
theorem dX8_stands_6 : decode cX8_stands 6 = .ok (.iadd, 1) := by decide +kernel
theorem dX8_stands_7 : decode cX8_stands 7 = .ok (.istore 9, 2) := by decide +kernel
theorem dX8_stands_9 : decode cX8_stands 9 = .ok (.aload_n 0, 1) := by decide +kernel
theorem dX8_stands_10 : decode cX8_stands 10 = .ok (.getfield 13, 3) := by decide +kernel
theorem dX8_stands_13 : decode cX8_stands 13 = .ok (.iload 9, 2) := by decide +kernel
theorem dX8_stands_15 : decode cX8_stands 15 = .ok (.iload_n 2, 1) := by decide +kernel
theorem dX8_stands_16 : decode cX8_stands 16 = .ok (.iastore, 1) := by decide +kernel
theorem dX8_stands_17 : decode cX8_stands 17 = .ok (.aload_n 0, 1) := by decide +kernel
theorem dX8_stands_18 : decode cX8_stands 18 = .ok (.getfield 13, 3) := by decide +kernel
theorem dX8_stands_21 : decode cX8_stands 21 = .ok (.iload 9, 2) := by decide +kernel
theorem dX8_stands_23 : decode cX8_stands 23 = .ok (.iconst 1, 1) := by decide +kernel
theorem dX8_stands_24 : decode cX8_stands 24 = .ok (.iadd, 1) := by decide +kernel
theorem dX8_stands_25 : decode cX8_stands 25 = .ok (.iload_n 3, 1) := by decide +kernel
theorem dX8_stands_26 : decode cX8_stands 26 = .ok (.iastore, 1) := by decide +kernel
theorem dX8_stands_27 : decode cX8_stands 27 = .ok (.aload_n 0, 1) := by decide +kernel
theorem dX8_stands_28 : decode cX8_stands 28 = .ok (.getfield 13, 3) := by decide +kernel
theorem dX8_stands_31 : decode cX8_stands 31 = .ok (.iload 9, 2) := by decide +kernel
theorem dX8_stands_33 : decode cX8_stands 33 = .ok (.iconst 2, 1) := by decide +kernel
theorem dX8_stands_34 : decode cX8_stands 34 = .ok (.iadd, 1) := by decide +kernel
theorem dX8_stands_35 : decode cX8_stands 35 = .ok (.iload 4, 2) := by decide +kernel
theorem dX8_stands_37 : decode cX8_stands 37 = .ok (.iastore, 1) := by decide +kernel
theorem dX8_stands_38 : decode cX8_stands 38 = .ok (.aload_n 0, 1) := by decide +kernel
theorem dX8_stands_39 : decode cX8_stands 39 = .ok (.getfield 13, 3) := by decide +kernel
theorem dX8_stands_42 : decode cX8_stands 42 = .ok (.iload 9, 2) := by decide +kernel
theorem dX8_stands_44 : decode cX8_stands 44 = .ok (.iconst 3, 1) := by decide +kernel
theorem dX8_stands_45 : decode cX8_stands 45 = .ok (.iadd, 1) := by decide +kernel
theorem dX8_stands_46 : decode cX8_stands 46 = .ok (.iload 5, 2) := by decide +kernel
theorem dX8_stands_48 : decode cX8_stands 48 = .ok (.iastore, 1) := by decide +kernel
theorem dX8_stands_49 : decode cX8_stands 49 = .ok (.aload_n 0, 1) := by decide +kernel
theorem dX8_stands_50 : decode cX8_stands 50 = .ok (.getfield 13, 3) := by decide +kernel
theorem dX8_stands_53 : decode cX8_stands 53 = .ok (.iload 9, 2) := by decide +kernel
theorem dX8_stands_55 : decode cX8_stands 55 = .ok (.iconst 4, 1) := by decide +kernel
theorem dX8_stands_56 : decode cX8_stands 56 = .ok (.iadd, 1) := by decide +kernel
theorem dX8_stands_57 : decode cX8_stands 57 = .ok (.iload 6, 2) := by decide +kernel
theorem dX8_stands_59 : decode cX8_stands 59 = .ok (.iastore, 1) := by decide +kernel
theorem dX8_stands_60 : decode cX8_stands 60 = .ok (.aload_n 0, 1) := by decide +kernel
theorem dX8_stands_61 : decode cX8_stands 61 = .ok (.getfield 13, 3) := by decide +kernel
theorem dX8_stands_64 : decode cX8_stands 64 = .ok (.iload 9, 2) := by decide +kernel
theorem dX8_stands_66 : decode cX8_stands 66 = .ok (.iconst 5, 1) := by decide +kernel
theorem dX8_stands_67 : decode cX8_stands 67 = .ok (.iadd, 1) := by decide +kernel
theorem dX8_stands_68 : decode cX8_stands 68 = .ok (.iload 7, 2) := by decide +kernel
theorem dX8_stands_70 : decode cX8_stands 70 = .ok (.iastore, 1) := by decide +kernel
theorem dX8_stands_71 : decode cX8_stands 71 = .ok (.aload_n 0, 1) := by decide +kernel
theorem dX8_stands_72 : decode cX8_stands 72 = .ok (.getfield 13, 3) := by decide +kernel
theorem dX8_stands_75 : decode cX8_stands 75 = .ok (.iload 9, 2) := by decide +kernel
theorem dX8_stands_77 : decode cX8_stands 77 = .ok (.bipush 6, 2) := by decide +kernel
theorem dX8_stands_79 : decode cX8_stands 79 = .ok (.iadd, 1) := by decide +kernel
theorem dX8_stands_80 : decode cX8_stands 80 = .ok (.iload 8, 2) := by decide +kernel
theorem dX8_stands_82 : decode cX8_stands 82 = .ok (.iastore, 1) := by decide +kernel
theorem dX8_stands_83 : decode cX8_stands 83 = .ok (.return_, 1) := by decide +kernel
theorem dX8_in_0 : decode cX8_in 0 = .ok (.iload_n 0, 1) := by decide +kernel
theorem dX8_in_1 : decode cX8_in 1 = .ok (.iload_n 1, 1) := by decide +kernel
theorem dX8_in_2 : decode cX8_in 2 = .ok (.if_icmp .lt 12, 3) := by decide +kernel
theorem dX8_in_5 : decode cX8_in 5 = .ok (.iload_n 0, 1) := by decide +kernel
theorem dX8_in_6 : decode cX8_in 6 = .ok (.iload_n 2, 1) := by decide +kernel
theorem dX8_in_7 : decode cX8_in 7 = .ok (.if_icmp .gt 7, 3) := by decide +kernel
theorem dX8_in_10 : decode cX8_in 10 = .ok (.iconst 1, 1) := by decide +kernel
theorem dX8_in_11 : decode cX8_in 11 = .ok (.goto 4, 3) := by decide +kernel
theorem dX8_in_14 : decode cX8_in 14 = .ok (.iconst 0, 1) := by decide +kernel
theorem dX8_in_15 : decode cX8_in 15 = .ok (.ireturn, 1) := by decide +kernel
set_option maxRecDepth 20000 in
theorem ggX8_write_X8_in : GoodIn wsX8_write wsX8_in := goodIn_r _ [7] (by decide +kernel) (by decide +kernel)
set_option maxRecDepth 20000 in
theorem gX8_write_X8_in : GoodIn wsX8_write (va_wsS RX8 63 yX8_in wsX8_in) := goodIn_app (goodIn_of _ (by decide +kernel)) ggX8_write_X8_in
theorem dX8_write_0 : decode cX8_write 0 = .ok (.aload_n 0, 1) := by decide +kernel
theorem dX8_write_1 : decode cX8_write 1 = .ok (.iconst 0, 1) := by decide +kernel
theorem dX8_write_2 : decode cX8_write 2 = .ok (.putfield 59, 3) := by decide +kernel
theorem dX8_write_5 : decode cX8_write 5 = .ok (.iload_n 1, 1) := by decide +kernel
theorem dX8_write_6 : decode cX8_write 6 = .ok (.bipush 32, 2) := by decide +kernel
theorem dX8_write_8 : decode cX8_write 8 = .ok (.bipush 126, 2) := by decide +kernel
theorem dX8_write_10 : decode cX8_write 10 = .ok (.invokestatic 63, 3) := by decide +kernel
theorem dX8_write_13 : decode cX8_write 13 = .ok (.ifCond .ne 5, 3) := by decide +kernel
theorem dX8_write_16 : decode cX8_write 16 = .ok (.iconst (-1), 1) := by decide +kernel
theorem dX8_write_17 : decode cX8_write 17 = .ok (.ireturn, 1) := by decide +kernel
theorem dX8_write_18 : decode cX8_write 18 = .ok (.aload_n 0, 1) := by decide +kernel
theorem dX8_write_19 : decode cX8_write 19 = .ok (.getfield 67, 3) := by decide +kernel
theorem dX8_write_22 : decode cX8_write 22 = .ok (.sipush 200, 3) := by decide +kernel
theorem dX8_write_25 : decode cX8_write 25 = .ok (.if_icmp .ne 6, 3) := by decide +kernel
theorem dX8_write_28 : decode cX8_write 28 = .ok (.bipush (-3), 2) := by decide +kernel
theorem dX8_write_30 : decode cX8_write 30 = .ok (.ireturn, 1) := by decide +kernel
theorem dX8_write_31 : decode cX8_write 31 = .ok (.aload_n 0, 1) := by decide +kernel
theorem dX8_write_32 : decode cX8_write 32 = .ok (.getfield 7, 3) := by decide +kernel
theorem dX8_write_35 : decode cX8_write 35 = .ok (.aload_n 0, 1) := by decide +kernel
theorem dX8_write_36 : decode cX8_write 36 = .ok (.getfield 67, 3) := by decide +kernel
theorem dX8_write_39 : decode cX8_write 39 = .ok (.iload_n 1, 1) := by decide +kernel
theorem dX8_write_40 : decode cX8_write 40 = .ok (.i2b, 1) := by decide +kernel
theorem dX8_write_41 : decode cX8_write 41 = .ok (.bastore, 1) := by decide +kernel
theorem dX8_write_42 : decode cX8_write 42 = .ok (.aload_n 0, 1) := by decide +kernel
theorem dX8_write_43 : decode cX8_write 43 = .ok (.dup, 1) := by decide +kernel
theorem dX8_write_44 : decode cX8_write 44 = .ok (.getfield 67, 3) := by decide +kernel
theorem dX8_write_47 : decode cX8_write 47 = .ok (.iconst 1, 1) := by decide +kernel
theorem dX8_write_48 : decode cX8_write 48 = .ok (.iadd, 1) := by decide +kernel
theorem dX8_write_49 : decode cX8_write 49 = .ok (.putfield 67, 3) := by decide +kernel
theorem dX8_write_52 : decode cX8_write 52 = .ok (.aload_n 0, 1) := by decide +kernel
theorem dX8_write_53 : decode cX8_write 53 = .ok (.getfield 67, 3) := by decide +kernel
theorem dX8_write_56 : decode cX8_write 56 = .ok (.ireturn, 1) := by decide +kernel
theorem dX8_wipe_0 : decode cX8_wipe 0 = .ok (.aload_n 0, 1) := by decide +kernel
theorem dX8_wipe_1 : decode cX8_wipe 1 = .ok (.iconst 0, 1) := by decide +kernel
theorem dX8_wipe_2 : decode cX8_wipe 2 = .ok (.putfield 59, 3) := by decide +kernel
theorem dX8_wipe_5 : decode cX8_wipe 5 = .ok (.aload_n 0, 1) := by decide +kernel
theorem dX8_wipe_6 : decode cX8_wipe 6 = .ok (.getfield 67, 3) := by decide +kernel
theorem dX8_wipe_9 : decode cX8_wipe 9 = .ok (.istore_n 1, 1) := by decide +kernel
theorem dX8_wipe_10 : decode cX8_wipe 10 = .ok (.aload_n 0, 1) := by decide +kernel
theorem dX8_wipe_11 : decode cX8_wipe 11 = .ok (.iconst 0, 1) := by decide +kernel
theorem dX8_wipe_12 : decode cX8_wipe 12 = .ok (.putfield 67, 3) := by decide +kernel
theorem dX8_wipe_15 : decode cX8_wipe 15 = .ok (.iload_n 1, 1) := by decide +kernel
theorem dX8_wipe_16 : decode cX8_wipe 16 = .ok (.ireturn, 1) := by decide +kernel
theorem dX8_isHere_0 : decode cX8_isHere 0 = .ok (.aload_n 0, 1) := by decide +kernel
theorem dX8_isHere_1 : decode cX8_isHere 1 = .ok (.getfield 70, 3) := by decide +kernel
theorem dX8_isHere_4 : decode cX8_isHere 4 = .ok (.aload_n 0, 1) := by decide +kernel
theorem dX8_isHere_5 : decode cX8_isHere 5 = .ok (.getfield 67, 3) := by decide +kernel
theorem dX8_isHere_8 : decode cX8_isHere 8 = .ok (.if_icmp .ge 20, 3) := by decide +kernel
theorem dX8_isHere_11 : decode cX8_isHere 11 = .ok (.aload_n 0, 1) := by decide +kernel
theorem dX8_isHere_12 : decode cX8_isHere 12 = .ok (.getfield 7, 3) := by decide +kernel
theorem dX8_isHere_15 : decode cX8_isHere 15 = .ok (.aload_n 0, 1) := by decide +kernel
theorem dX8_isHere_16 : decode cX8_isHere 16 = .ok (.getfield 70, 3) := by decide +kernel
theorem dX8_isHere_19 : decode cX8_isHere 19 = .ok (.baload, 1) := by decide +kernel
theorem dX8_isHere_20 : decode cX8_isHere 20 = .ok (.iload_n 1, 1) := by decide +kernel
theorem dX8_isHere_21 : decode cX8_isHere 21 = .ok (.if_icmp .ne 7, 3) := by decide +kernel
theorem dX8_isHere_24 : decode cX8_isHere 24 = .ok (.iconst 1, 1) := by decide +kernel
theorem dX8_isHere_25 : decode cX8_isHere 25 = .ok (.goto 4, 3) := by decide +kernel
theorem dX8_isHere_28 : decode cX8_isHere 28 = .ok (.iconst 0, 1) := by decide +kernel
theorem dX8_isHere_29 : decode cX8_isHere 29 = .ok (.ireturn, 1) := by decide +kernel
set_option maxRecDepth 20000 in
theorem ggX8_takes_X8_isHere : GoodIn wsX8_takes wsX8_isHere := goodIn_r _ [7, 1, 8, 9, 10, 11, 12, 13, 14, 15, 16, 17, 18, 19, 20, 21, 22, 23, 24, 25, 26, 27, 28, 29, 30, 31, 32, 33] (by decide +kernel) (by decide +kernel)
set_option maxRecDepth 20000 in
theorem gX8_takes_X8_isHere : GoodIn wsX8_takes (wsV RX8 73 RX8 yX8_isHere wsX8_isHere) := goodIn_app (goodIn_of _ (by decide +kernel)) ggX8_takes_X8_isHere
theorem dX8_takes_0 : decode cX8_takes 0 = .ok (.aload_n 0, 1) := by decide +kernel
theorem dX8_takes_1 : decode cX8_takes 1 = .ok (.iload_n 1, 1) := by decide +kernel
theorem dX8_takes_2 : decode cX8_takes 2 = .ok (.invokevirtual 73, 3) := by decide +kernel
theorem dX8_takes_5 : decode cX8_takes 5 = .ok (.ifCond .eq 16, 3) := by decide +kernel
theorem dX8_takes_8 : decode cX8_takes 8 = .ok (.aload_n 0, 1) := by decide +kernel
theorem dX8_takes_9 : decode cX8_takes 9 = .ok (.dup, 1) := by decide +kernel
theorem dX8_takes_10 : decode cX8_takes 10 = .ok (.getfield 70, 3) := by decide +kernel
theorem dX8_takes_13 : decode cX8_takes 13 = .ok (.iconst 1, 1) := by decide +kernel
theorem dX8_takes_14 : decode cX8_takes 14 = .ok (.iadd, 1) := by decide +kernel
theorem dX8_takes_15 : decode cX8_takes 15 = .ok (.putfield 70, 3) := by decide +kernel
theorem dX8_takes_18 : decode cX8_takes 18 = .ok (.goto 8, 3) := by decide +kernel
theorem dX8_takes_21 : decode cX8_takes 21 = .ok (.aload_n 0, 1) := by decide +kernel
theorem dX8_takes_22 : decode cX8_takes 22 = .ok (.iconst 0, 1) := by decide +kernel
theorem dX8_takes_23 : decode cX8_takes 23 = .ok (.putfield 77, 3) := by decide +kernel
theorem dX8_takes_26 : decode cX8_takes 26 = .ok (.return_, 1) := by decide +kernel
set_option maxRecDepth 20000 in
theorem ggX8_takesNumber_X8_isHere : GoodIn wsX8_takesNumber wsX8_isHere := goodIn_r _ [9, 1, 2, 3, 13, 14, 15, 16, 17, 18, 19, 20, 21, 22, 23, 24, 25, 26, 27, 28, 29, 30, 31, 32, 33, 34, 35, 36] (by decide +kernel) (by decide +kernel)
set_option maxRecDepth 20000 in
theorem gX8_takesNumber_X8_isHere : GoodIn wsX8_takesNumber (wsV RX8 73 RX8 yX8_isHere wsX8_isHere) := goodIn_app (goodIn_of _ (by decide +kernel)) ggX8_takesNumber_X8_isHere
set_option maxRecDepth 20000 in
theorem ggX8_takesNumber_X8_in : GoodIn wsX8_takesNumber wsX8_in := goodIn_r _ [12] (by decide +kernel) (by decide +kernel)
set_option maxRecDepth 20000 in
theorem gX8_takesNumber_X8_in : GoodIn wsX8_takesNumber (va_wsS RX8 63 yX8_in wsX8_in) := goodIn_app (goodIn_of _ (by decide +kernel)) ggX8_takesNumber_X8_in
theorem dX8_takesNumber_0 : decode cX8_takesNumber 0 = .ok (.iload_n 1, 1) := by decide +kernel
theorem dX8_takesNumber_1 : decode cX8_takesNumber 1 = .ok (.ifCond .ge 16, 3) := by decide +kernel
theorem dX8_takesNumber_4 : decode cX8_takesNumber 4 = .ok (.aload_n 0, 1) := by decide +kernel
theorem dX8_takesNumber_5 : decode cX8_takesNumber 5 = .ok (.bipush 45, 2) := by decide +kernel
theorem dX8_takesNumber_7 : decode cX8_takesNumber 7 = .ok (.invokevirtual 73, 3) := by decide +kernel
theorem dX8_takesNumber_10 : decode cX8_takesNumber 10 = .ok (.ifCond .eq 7, 3) := by decide +kernel
theorem dX8_takesNumber_13 : decode cX8_takesNumber 13 = .ok (.iconst 1, 1) := by decide +kernel
theorem dX8_takesNumber_14 : decode cX8_takesNumber 14 = .ok (.goto 4, 3) := by decide +kernel
theorem dX8_takesNumber_17 : decode cX8_takesNumber 17 = .ok (.iconst 0, 1) := by decide +kernel
theorem dX8_takesNumber_18 : decode cX8_takesNumber 18 = .ok (.istore_n 3, 1) := by decide +kernel
theorem dX8_takesNumber_19 : decode cX8_takesNumber 19 = .ok (.aload_n 0, 1) := by decide +kernel
theorem dX8_takesNumber_20 : decode cX8_takesNumber 20 = .ok (.dup, 1) := by decide +kernel
theorem dX8_takesNumber_21 : decode cX8_takesNumber 21 = .ok (.getfield 70, 3) := by decide +kernel
theorem dX8_takesNumber_24 : decode cX8_takesNumber 24 = .ok (.iload_n 3, 1) := by decide +kernel
theorem dX8_takesNumber_25 : decode cX8_takesNumber 25 = .ok (.ifCond .eq 7, 3) := by decide +kernel
theorem dX8_takesNumber_28 : decode cX8_takesNumber 28 = .ok (.iconst 1, 1) := by decide +kernel
theorem dX8_takesNumber_29 : decode cX8_takesNumber 29 = .ok (.goto 4, 3) := by decide +kernel
theorem dX8_takesNumber_32 : decode cX8_takesNumber 32 = .ok (.iconst 0, 1) := by decide +kernel
theorem dX8_takesNumber_33 : decode cX8_takesNumber 33 = .ok (.iadd, 1) := by decide +kernel
theorem dX8_takesNumber_34 : decode cX8_takesNumber 34 = .ok (.putfield 70, 3) := by decide +kernel
theorem dX8_takesNumber_37 : decode cX8_takesNumber 37 = .ok (.iconst 0, 1) := by decide +kernel
theorem dX8_takesNumber_38 : decode cX8_takesNumber 38 = .ok (.istore 4, 2) := by decide +kernel
theorem dX8_takesNumber_40 : decode cX8_takesNumber 40 = .ok (.iconst 0, 1) := by decide +kernel
theorem dX8_takesNumber_41 : decode cX8_takesNumber 41 = .ok (.istore 5, 2) := by decide +kernel
theorem dX8_takesNumber_43 : decode cX8_takesNumber 43 = .ok (.aload_n 0, 1) := by decide +kernel
theorem dX8_takesNumber_44 : decode cX8_takesNumber 44 = .ok (.getfield 70, 3) := by decide +kernel
theorem dX8_takesNumber_47 : decode cX8_takesNumber 47 = .ok (.aload_n 0, 1) := by decide +kernel
theorem dX8_takesNumber_48 : decode cX8_takesNumber 48 = .ok (.getfield 67, 3) := by decide +kernel
theorem dX8_takesNumber_51 : decode cX8_takesNumber 51 = .ok (.if_icmp .ge 64, 3) := by decide +kernel
theorem dX8_takesNumber_54 : decode cX8_takesNumber 54 = .ok (.aload_n 0, 1) := by decide +kernel
theorem dX8_takesNumber_55 : decode cX8_takesNumber 55 = .ok (.getfield 7, 3) := by decide +kernel
theorem dX8_takesNumber_58 : decode cX8_takesNumber 58 = .ok (.aload_n 0, 1) := by decide +kernel
theorem dX8_takesNumber_59 : decode cX8_takesNumber 59 = .ok (.getfield 70, 3) := by decide +kernel
theorem dX8_takesNumber_62 : decode cX8_takesNumber 62 = .ok (.baload, 1) := by decide +kernel
theorem dX8_takesNumber_63 : decode cX8_takesNumber 63 = .ok (.bipush 48, 2) := by decide +kernel
theorem dX8_takesNumber_65 : decode cX8_takesNumber 65 = .ok (.bipush 57, 2) := by decide +kernel
theorem dX8_takesNumber_67 : decode cX8_takesNumber 67 = .ok (.invokestatic 63, 3) := by decide +kernel
theorem dX8_takesNumber_70 : decode cX8_takesNumber 70 = .ok (.ifCond .eq 45, 3) := by decide +kernel
theorem dX8_takesNumber_73 : decode cX8_takesNumber 73 = .ok (.iload 5, 2) := by decide +kernel
theorem dX8_takesNumber_75 : decode cX8_takesNumber 75 = .ok (.iconst 4, 1) := by decide +kernel
theorem dX8_takesNumber_76 : decode cX8_takesNumber 76 = .ok (.if_icmp .ge 39, 3) := by decide +kernel
theorem dX8_takesNumber_79 : decode cX8_takesNumber 79 = .ok (.bipush 10, 2) := by decide +kernel
theorem dX8_takesNumber_81 : decode cX8_takesNumber 81 = .ok (.iload 4, 2) := by decide +kernel
theorem dX8_takesNumber_83 : decode cX8_takesNumber 83 = .ok (.imul, 1) := by decide +kernel
theorem dX8_takesNumber_84 : decode cX8_takesNumber 84 = .ok (.aload_n 0, 1) := by decide +kernel
theorem dX8_takesNumber_85 : decode cX8_takesNumber 85 = .ok (.getfield 7, 3) := by decide +kernel
theorem dX8_takesNumber_88 : decode cX8_takesNumber 88 = .ok (.aload_n 0, 1) := by decide +kernel
theorem dX8_takesNumber_89 : decode cX8_takesNumber 89 = .ok (.getfield 70, 3) := by decide +kernel
theorem dX8_takesNumber_92 : decode cX8_takesNumber 92 = .ok (.baload, 1) := by decide +kernel
theorem dX8_takesNumber_93 : decode cX8_takesNumber 93 = .ok (.iadd, 1) := by decide +kernel
theorem dX8_takesNumber_94 : decode cX8_takesNumber 94 = .ok (.bipush 48, 2) := by decide +kernel
theorem dX8_takesNumber_96 : decode cX8_takesNumber 96 = .ok (.isub, 1) := by decide +kernel
theorem dX8_takesNumber_97 : decode cX8_takesNumber 97 = .ok (.istore 4, 2) := by decide +kernel
theorem dX8_takesNumber_99 : decode cX8_takesNumber 99 = .ok (.iinc 5 1, 3) := by decide +kernel
theorem dX8_takesNumber_102 : decode cX8_takesNumber 102 = .ok (.aload_n 0, 1) := by decide +kernel
theorem dX8_takesNumber_103 : decode cX8_takesNumber 103 = .ok (.dup, 1) := by decide +kernel
theorem dX8_takesNumber_104 : decode cX8_takesNumber 104 = .ok (.getfield 70, 3) := by decide +kernel
theorem dX8_takesNumber_107 : decode cX8_takesNumber 107 = .ok (.iconst 1, 1) := by decide +kernel
theorem dX8_takesNumber_108 : decode cX8_takesNumber 108 = .ok (.iadd, 1) := by decide +kernel
theorem dX8_takesNumber_109 : decode cX8_takesNumber 109 = .ok (.putfield 70, 3) := by decide +kernel
theorem dX8_takesNumber_112 : decode cX8_takesNumber 112 = .ok (.goto (-69), 3) := by decide +kernel
theorem dX8_takesNumber_115 : decode cX8_takesNumber 115 = .ok (.aload_n 0, 1) := by decide +kernel
theorem dX8_takesNumber_116 : decode cX8_takesNumber 116 = .ok (.aload_n 0, 1) := by decide +kernel
theorem dX8_takesNumber_117 : decode cX8_takesNumber 117 = .ok (.getfield 77, 3) := by decide +kernel
theorem dX8_takesNumber_120 : decode cX8_takesNumber 120 = .ok (.ifCond .eq 21, 3) := by decide +kernel
theorem dX8_takesNumber_123 : decode cX8_takesNumber 123 = .ok (.iload 5, 2) := by decide +kernel
theorem dX8_takesNumber_125 : decode cX8_takesNumber 125 = .ok (.ifCond .le 16, 3) := by decide +kernel
theorem dX8_takesNumber_128 : decode cX8_takesNumber 128 = .ok (.iload_n 3, 1) := by decide +kernel
theorem dX8_takesNumber_129 : decode cX8_takesNumber 129 = .ok (.ifCond .eq 8, 3) := by decide +kernel
theorem dX8_takesNumber_132 : decode cX8_takesNumber 132 = .ok (.iload 4, 2) := by decide +kernel
theorem dX8_takesNumber_134 : decode cX8_takesNumber 134 = .ok (.ifCond .eq 7, 3) := by decide +kernel
theorem dX8_takesNumber_137 : decode cX8_takesNumber 137 = .ok (.iconst 1, 1) := by decide +kernel
theorem dX8_takesNumber_138 : decode cX8_takesNumber 138 = .ok (.goto 4, 3) := by decide +kernel
theorem dX8_takesNumber_141 : decode cX8_takesNumber 141 = .ok (.iconst 0, 1) := by decide +kernel
theorem dX8_takesNumber_142 : decode cX8_takesNumber 142 = .ok (.putfield 77, 3) := by decide +kernel
theorem dX8_takesNumber_145 : decode cX8_takesNumber 145 = .ok (.iload_n 3, 1) := by decide +kernel
theorem dX8_takesNumber_146 : decode cX8_takesNumber 146 = .ok (.ifCond .eq 9, 3) := by decide +kernel
theorem dX8_takesNumber_149 : decode cX8_takesNumber 149 = .ok (.iload 4, 2) := by decide +kernel
theorem dX8_takesNumber_151 : decode cX8_takesNumber 151 = .ok (.ineg, 1) := by decide +kernel
theorem dX8_takesNumber_152 : decode cX8_takesNumber 152 = .ok (.goto 5, 3) := by decide +kernel
theorem dX8_takesNumber_155 : decode cX8_takesNumber 155 = .ok (.iload 4, 2) := by decide +kernel
theorem dX8_takesNumber_157 : decode cX8_takesNumber 157 = .ok (.istore 4, 2) := by decide +kernel
theorem dX8_takesNumber_159 : decode cX8_takesNumber 159 = .ok (.aload_n 0, 1) := by decide +kernel
theorem dX8_takesNumber_160 : decode cX8_takesNumber 160 = .ok (.aload_n 0, 1) := by decide +kernel
theorem dX8_takesNumber_161 : decode cX8_takesNumber 161 = .ok (.getfield 77, 3) := by decide +kernel
theorem dX8_takesNumber_164 : decode cX8_takesNumber 164 = .ok (.ifCond .eq 17, 3) := by decide +kernel
theorem dX8_takesNumber_167 : decode cX8_takesNumber 167 = .ok (.iload 4, 2) := by decide +kernel
theorem dX8_takesNumber_169 : decode cX8_takesNumber 169 = .ok (.iload_n 1, 1) := by decide +kernel
theorem dX8_takesNumber_170 : decode cX8_takesNumber 170 = .ok (.iload_n 2, 1) := by decide +kernel
theorem dX8_takesNumber_171 : decode cX8_takesNumber 171 = .ok (.invokestatic 63, 3) := by decide +kernel
theorem dX8_takesNumber_174 : decode cX8_takesNumber 174 = .ok (.ifCond .eq 7, 3) := by decide +kernel
theorem dX8_takesNumber_177 : decode cX8_takesNumber 177 = .ok (.iconst 1, 1) := by decide +kernel
theorem dX8_takesNumber_178 : decode cX8_takesNumber 178 = .ok (.goto 4, 3) := by decide +kernel
theorem dX8_takesNumber_181 : decode cX8_takesNumber 181 = .ok (.iconst 0, 1) := by decide +kernel
theorem dX8_takesNumber_182 : decode cX8_takesNumber 182 = .ok (.putfield 77, 3) := by decide +kernel
theorem dX8_takesNumber_185 : decode cX8_takesNumber 185 = .ok (.iload 4, 2) := by decide +kernel
theorem dX8_takesNumber_187 : decode cX8_takesNumber 187 = .ok (.ireturn, 1) := by decide +kernel
theorem dX8_lowOf_0 : decode cX8_lowOf 0 = .ok (.iload_n 0, 1) := by decide +kernel
theorem dX8_lowOf_1 : decode cX8_lowOf 1 = .ok (.ifCond .eq 13, 3) := by decide +kernel
theorem dX8_lowOf_4 : decode cX8_lowOf 4 = .ok (.iload_n 0, 1) := by decide +kernel
theorem dX8_lowOf_5 : decode cX8_lowOf 5 = .ok (.iconst 2, 1) := by decide +kernel
theorem dX8_lowOf_6 : decode cX8_lowOf 6 = .ok (.if_icmp .eq 8, 3) := by decide +kernel
theorem dX8_lowOf_9 : decode cX8_lowOf 9 = .ok (.iload_n 0, 1) := by decide +kernel
theorem dX8_lowOf_10 : decode cX8_lowOf 10 = .ok (.iconst 3, 1) := by decide +kernel
theorem dX8_lowOf_11 : decode cX8_lowOf 11 = .ok (.if_icmp .ne 7, 3) := by decide +kernel
theorem dX8_lowOf_14 : decode cX8_lowOf 14 = .ok (.iconst 1, 1) := by decide +kernel
theorem dX8_lowOf_15 : decode cX8_lowOf 15 = .ok (.goto 25, 3) := by decide +kernel
theorem dX8_lowOf_18 : decode cX8_lowOf 18 = .ok (.iload_n 0, 1) := by decide +kernel
theorem dX8_lowOf_19 : decode cX8_lowOf 19 = .ok (.iconst 1, 1) := by decide +kernel
theorem dX8_lowOf_20 : decode cX8_lowOf 20 = .ok (.if_icmp .ne 9, 3) := by decide +kernel
theorem dX8_lowOf_23 : decode cX8_lowOf 23 = .ok (.sipush 800, 3) := by decide +kernel
theorem dX8_lowOf_26 : decode cX8_lowOf 26 = .ok (.goto 14, 3) := by decide +kernel
theorem dX8_lowOf_29 : decode cX8_lowOf 29 = .ok (.iload_n 0, 1) := by decide +kernel
theorem dX8_lowOf_30 : decode cX8_lowOf 30 = .ok (.iconst 5, 1) := by decide +kernel
theorem dX8_lowOf_31 : decode cX8_lowOf 31 = .ok (.if_icmp .ne 8, 3) := by decide +kernel
theorem dX8_lowOf_34 : decode cX8_lowOf 34 = .ok (.bipush (-50), 2) := by decide +kernel
theorem dX8_lowOf_36 : decode cX8_lowOf 36 = .ok (.goto 4, 3) := by decide +kernel
theorem dX8_lowOf_39 : decode cX8_lowOf 39 = .ok (.iconst 0, 1) := by decide +kernel
theorem dX8_lowOf_40 : decode cX8_lowOf 40 = .ok (.ireturn, 1) := by decide +kernel
theorem dX8_highOf_0 : decode cX8_highOf 0 = .ok (.iload_n 0, 1) := by decide +kernel
theorem dX8_highOf_1 : decode cX8_highOf 1 = .ok (.tableswitch 51 0 5 #[39, 42, 46, 51, 49, 39], 39) := by decide +kernel
theorem dX8_highOf_40 : decode cX8_highOf 40 = .ok (.bipush 50, 2) := by decide +kernel
theorem dX8_highOf_42 : decode cX8_highOf 42 = .ok (.ireturn, 1) := by decide +kernel
theorem dX8_highOf_43 : decode cX8_highOf 43 = .ok (.sipush 1200, 3) := by decide +kernel
theorem dX8_highOf_46 : decode cX8_highOf 46 = .ok (.ireturn, 1) := by decide +kernel
theorem dX8_highOf_47 : decode cX8_highOf 47 = .ok (.bipush 99, 2) := by decide +kernel
theorem dX8_highOf_49 : decode cX8_highOf 49 = .ok (.ireturn, 1) := by decide +kernel
theorem dX8_highOf_50 : decode cX8_highOf 50 = .ok (.iconst 2, 1) := by decide +kernel
theorem dX8_highOf_51 : decode cX8_highOf 51 = .ok (.ireturn, 1) := by decide +kernel
theorem dX8_highOf_52 : decode cX8_highOf 52 = .ok (.bipush 9, 2) := by decide +kernel
theorem dX8_highOf_54 : decode cX8_highOf 54 = .ok (.ireturn, 1) := by decide +kernel
set_option maxRecDepth 20000 in
theorem ggX8_takesStage_X8_takes : GoodIn wsX8_takesStage wsX8_takes := goodIn_r _ [7, 8, 1, 9, 10, 11, 6, 12, 13, 14, 28, 29, 30, 31, 32, 33, 34, 35, 36, 37, 38, 39, 40, 41, 42, 43, 44, 45, 46, 47, 48, 49, 50, 51] (by decide +kernel) (by decide +kernel)
set_option maxRecDepth 20000 in
theorem gX8_takesStage_X8_takes : GoodIn wsX8_takesStage (wsV RX8 81 RX8 yX8_takes wsX8_takes) := goodIn_app (goodIn_of _ (by decide +kernel)) ggX8_takesStage_X8_takes
set_option maxRecDepth 20000 in
theorem ggX8_takesStage_X8_lowOf : GoodIn wsX8_takesStage wsX8_lowOf := goodIn_r _ [17] (by decide +kernel) (by decide +kernel)
set_option maxRecDepth 20000 in
theorem gX8_takesStage_X8_lowOf : GoodIn wsX8_takesStage (va_wsS RX8 85 yX8_lowOf wsX8_lowOf) := goodIn_app (goodIn_of _ (by decide +kernel)) ggX8_takesStage_X8_lowOf
set_option maxRecDepth 20000 in
theorem ggX8_takesStage_X8_highOf : GoodIn wsX8_takesStage wsX8_highOf := goodIn_r _ [20] (by decide +kernel) (by decide +kernel)
set_option maxRecDepth 20000 in
theorem gX8_takesStage_X8_highOf : GoodIn wsX8_takesStage (va_wsS RX8 89 yX8_highOf wsX8_highOf) := goodIn_app (goodIn_of _ (by decide +kernel)) ggX8_takesStage_X8_highOf
set_option maxRecDepth 20000 in
theorem ggX8_takesStage_X8_takesNumber : GoodIn wsX8_takesStage wsX8_takesNumber := goodIn_r _ [24, 8, 13, 14, 1, 9, 10, 11, 6, 12, 25, 26, 27, 28, 29, 30, 31, 32, 33, 34, 35, 36, 37, 38, 39, 40, 41, 42, 43, 44, 45, 46, 47, 48, 49, 50, 51] (by decide +kernel) (by decide +kernel)
set_option maxRecDepth 20000 in
theorem gX8_takesStage_X8_takesNumber : GoodIn wsX8_takesStage (wsV RX8 92 RX8 yX8_takesNumber wsX8_takesNumber) := goodIn_app (goodIn_of _ (by decide +kernel)) ggX8_takesStage_X8_takesNumber
theorem dX8_takesStage_0 : decode cX8_takesStage 0 = .ok (.aload_n 0, 1) := by decide +kernel
theorem dX8_takesStage_1 : decode cX8_takesStage 1 = .ok (.aload_n 0, 1) := by decide +kernel
theorem dX8_takesStage_2 : decode cX8_takesStage 2 = .ok (.getfield 77, 3) := by decide +kernel
theorem dX8_takesStage_5 : decode cX8_takesStage 5 = .ok (.ifCond .eq 17, 3) := by decide +kernel
theorem dX8_takesStage_8 : decode cX8_takesStage 8 = .ok (.aload_n 0, 1) := by decide +kernel
theorem dX8_takesStage_9 : decode cX8_takesStage 9 = .ok (.getfield 17, 3) := by decide +kernel
theorem dX8_takesStage_12 : decode cX8_takesStage 12 = .ok (.iconst 0, 1) := by decide +kernel
theorem dX8_takesStage_13 : decode cX8_takesStage 13 = .ok (.iaload, 1) := by decide +kernel
theorem dX8_takesStage_14 : decode cX8_takesStage 14 = .ok (.iconst 4, 1) := by decide +kernel
theorem dX8_takesStage_15 : decode cX8_takesStage 15 = .ok (.if_icmp .ge 7, 3) := by decide +kernel
theorem dX8_takesStage_18 : decode cX8_takesStage 18 = .ok (.iconst 1, 1) := by decide +kernel
theorem dX8_takesStage_19 : decode cX8_takesStage 19 = .ok (.goto 4, 3) := by decide +kernel
theorem dX8_takesStage_22 : decode cX8_takesStage 22 = .ok (.iconst 0, 1) := by decide +kernel
theorem dX8_takesStage_23 : decode cX8_takesStage 23 = .ok (.putfield 77, 3) := by decide +kernel
theorem dX8_takesStage_26 : decode cX8_takesStage 26 = .ok (.bipush 6, 2) := by decide +kernel
theorem dX8_takesStage_28 : decode cX8_takesStage 28 = .ok (.bipush 12, 2) := by decide +kernel
theorem dX8_takesStage_30 : decode cX8_takesStage 30 = .ok (.aload_n 0, 1) := by decide +kernel
theorem dX8_takesStage_31 : decode cX8_takesStage 31 = .ok (.getfield 17, 3) := by decide +kernel
theorem dX8_takesStage_34 : decode cX8_takesStage 34 = .ok (.iconst 0, 1) := by decide +kernel
theorem dX8_takesStage_35 : decode cX8_takesStage 35 = .ok (.iaload, 1) := by decide +kernel
theorem dX8_takesStage_36 : decode cX8_takesStage 36 = .ok (.imul, 1) := by decide +kernel
theorem dX8_takesStage_37 : decode cX8_takesStage 37 = .ok (.iadd, 1) := by decide +kernel
theorem dX8_takesStage_38 : decode cX8_takesStage 38 = .ok (.istore_n 1, 1) := by decide +kernel
theorem dX8_takesStage_39 : decode cX8_takesStage 39 = .ok (.iconst 0, 1) := by decide +kernel
theorem dX8_takesStage_40 : decode cX8_takesStage 40 = .ok (.istore_n 2, 1) := by decide +kernel
theorem dX8_takesStage_41 : decode cX8_takesStage 41 = .ok (.iload_n 2, 1) := by decide +kernel
theorem dX8_takesStage_42 : decode cX8_takesStage 42 = .ok (.bipush 7, 2) := by decide +kernel
theorem dX8_takesStage_44 : decode cX8_takesStage 44 = .ok (.if_icmp .ge 46, 3) := by decide +kernel
theorem dX8_takesStage_47 : decode cX8_takesStage 47 = .ok (.aload_n 0, 1) := by decide +kernel
theorem dX8_takesStage_48 : decode cX8_takesStage 48 = .ok (.getfield 77, 3) := by decide +kernel
theorem dX8_takesStage_51 : decode cX8_takesStage 51 = .ok (.ifCond .eq 39, 3) := by decide +kernel
theorem dX8_takesStage_54 : decode cX8_takesStage 54 = .ok (.iload_n 2, 1) := by decide +kernel
theorem dX8_takesStage_55 : decode cX8_takesStage 55 = .ok (.ifCond .le 9, 3) := by decide +kernel
theorem dX8_takesStage_58 : decode cX8_takesStage 58 = .ok (.aload_n 0, 1) := by decide +kernel
theorem dX8_takesStage_59 : decode cX8_takesStage 59 = .ok (.bipush 44, 2) := by decide +kernel
theorem dX8_takesStage_61 : decode cX8_takesStage 61 = .ok (.invokevirtual 81, 3) := by decide +kernel
theorem dX8_takesStage_64 : decode cX8_takesStage 64 = .ok (.aload_n 0, 1) := by decide +kernel
theorem dX8_takesStage_65 : decode cX8_takesStage 65 = .ok (.getfield 17, 3) := by decide +kernel
theorem dX8_takesStage_68 : decode cX8_takesStage 68 = .ok (.iload_n 1, 1) := by decide +kernel
theorem dX8_takesStage_69 : decode cX8_takesStage 69 = .ok (.iload_n 2, 1) := by decide +kernel
theorem dX8_takesStage_70 : decode cX8_takesStage 70 = .ok (.iadd, 1) := by decide +kernel
theorem dX8_takesStage_71 : decode cX8_takesStage 71 = .ok (.aload_n 0, 1) := by decide +kernel
theorem dX8_takesStage_72 : decode cX8_takesStage 72 = .ok (.iload_n 2, 1) := by decide +kernel
theorem dX8_takesStage_73 : decode cX8_takesStage 73 = .ok (.invokestatic 85, 3) := by decide +kernel
theorem dX8_takesStage_76 : decode cX8_takesStage 76 = .ok (.iload_n 2, 1) := by decide +kernel
theorem dX8_takesStage_77 : decode cX8_takesStage 77 = .ok (.invokestatic 89, 3) := by decide +kernel
theorem dX8_takesStage_80 : decode cX8_takesStage 80 = .ok (.invokevirtual 92, 3) := by decide +kernel
theorem dX8_takesStage_83 : decode cX8_takesStage 83 = .ok (.iastore, 1) := by decide +kernel
theorem dX8_takesStage_84 : decode cX8_takesStage 84 = .ok (.iinc 2 1, 3) := by decide +kernel
theorem dX8_takesStage_87 : decode cX8_takesStage 87 = .ok (.goto (-46), 3) := by decide +kernel
theorem dX8_takesStage_90 : decode cX8_takesStage 90 = .ok (.aload_n 0, 1) := by decide +kernel
theorem dX8_takesStage_91 : decode cX8_takesStage 91 = .ok (.bipush 59, 2) := by decide +kernel
theorem dX8_takesStage_93 : decode cX8_takesStage 93 = .ok (.invokevirtual 81, 3) := by decide +kernel
theorem dX8_takesStage_96 : decode cX8_takesStage 96 = .ok (.aload_n 0, 1) := by decide +kernel
theorem dX8_takesStage_97 : decode cX8_takesStage 97 = .ok (.getfield 17, 3) := by decide +kernel
theorem dX8_takesStage_100 : decode cX8_takesStage 100 = .ok (.iconst 0, 1) := by decide +kernel
theorem dX8_takesStage_101 : decode cX8_takesStage 101 = .ok (.dup2, 1) := by decide +kernel
theorem dX8_takesStage_102 : decode cX8_takesStage 102 = .ok (.iaload, 1) := by decide +kernel
theorem dX8_takesStage_103 : decode cX8_takesStage 103 = .ok (.aload_n 0, 1) := by decide +kernel
theorem dX8_takesStage_104 : decode cX8_takesStage 104 = .ok (.getfield 77, 3) := by decide +kernel
theorem dX8_takesStage_107 : decode cX8_takesStage 107 = .ok (.ifCond .eq 7, 3) := by decide +kernel
theorem dX8_takesStage_110 : decode cX8_takesStage 110 = .ok (.iconst 1, 1) := by decide +kernel
theorem dX8_takesStage_111 : decode cX8_takesStage 111 = .ok (.goto 4, 3) := by decide +kernel
theorem dX8_takesStage_114 : decode cX8_takesStage 114 = .ok (.iconst 0, 1) := by decide +kernel
theorem dX8_takesStage_115 : decode cX8_takesStage 115 = .ok (.iadd, 1) := by decide +kernel
theorem dX8_takesStage_116 : decode cX8_takesStage 116 = .ok (.iastore, 1) := by decide +kernel
theorem dX8_takesStage_117 : decode cX8_takesStage 117 = .ok (.return_, 1) := by decide +kernel
set_option maxRecDepth 20000 in
theorem ggX8_reads_X8_isHere : GoodIn wsX8_reads wsX8_isHere := goodIn_r _ [9, 2, 3, 10, 32, 33, 34, 35, 36, 37, 38, 39, 40, 41, 42, 43, 44, 45, 46, 47, 48, 49, 50, 51, 52, 53, 54, 55] (by decide +kernel) (by decide +kernel)
set_option maxRecDepth 20000 in
theorem gX8_reads_X8_isHere : GoodIn wsX8_reads (wsV RX8 73 RX8 yX8_isHere wsX8_isHere) := goodIn_app (goodIn_of _ (by decide +kernel)) ggX8_reads_X8_isHere
set_option maxRecDepth 20000 in
theorem ggX8_reads_X8_takesNumber : GoodIn wsX8_reads wsX8_takesNumber := goodIn_r _ [14, 2, 3, 10, 4, 5, 6, 7, 8, 9, 15, 16, 17, 32, 33, 34, 35, 36, 37, 38, 39, 40, 41, 42, 43, 44, 45, 46, 47, 48, 49, 50, 51, 52, 53, 54, 55] (by decide +kernel) (by decide +kernel)
set_option maxRecDepth 20000 in
theorem gX8_reads_X8_takesNumber : GoodIn wsX8_reads (wsV RX8 92 RX8 yX8_takesNumber wsX8_takesNumber) := goodIn_app (goodIn_of _ (by decide +kernel)) ggX8_reads_X8_takesNumber
set_option maxRecDepth 20000 in
theorem ggX8_reads_X8_takes : GoodIn wsX8_reads wsX8_takes := goodIn_r _ [21, 2, 4, 5, 6, 7, 8, 9, 3, 10, 32, 33, 34, 35, 36, 37, 38, 39, 40, 41, 42, 43, 44, 45, 46, 47, 48, 49, 50, 51, 52, 53, 54, 55] (by decide +kernel) (by decide +kernel)
set_option maxRecDepth 20000 in
theorem gX8_reads_X8_takes : GoodIn wsX8_reads (wsV RX8 81 RX8 yX8_takes wsX8_takes) := goodIn_app (goodIn_of _ (by decide +kernel)) ggX8_reads_X8_takes
set_option maxRecDepth 20000 in
theorem ggX8_reads_X8_takesStage : GoodIn wsX8_reads wsX8_takesStage := goodIn_r _ [25, 4, 1, 18, 19, 20, 8, 21, 2, 5, 6, 7, 9, 3, 10, 26, 27, 28, 29, 30, 31, 11, 12, 13, 14, 15, 16, 17, 32, 33, 34, 35, 36, 37, 38, 39, 40, 41, 42, 43, 44, 45, 46, 47, 48, 49, 50, 51, 52, 53, 54, 55] (by decide +kernel) (by decide +kernel)
set_option maxRecDepth 20000 in
theorem gX8_reads_X8_takesStage : GoodIn wsX8_reads (wsV RX8 96 RX8 yX8_takesStage wsX8_takesStage) := goodIn_app (goodIn_of _ (by decide +kernel)) ggX8_reads_X8_takesStage
theorem dX8_reads_0 : decode cX8_reads 0 = .ok (.iconst 0, 1) := by decide +kernel
theorem dX8_reads_1 : decode cX8_reads 1 = .ok (.istore_n 1, 1) := by decide +kernel
theorem dX8_reads_2 : decode cX8_reads 2 = .ok (.iload_n 1, 1) := by decide +kernel
theorem dX8_reads_3 : decode cX8_reads 3 = .ok (.bipush 114, 2) := by decide +kernel
theorem dX8_reads_5 : decode cX8_reads 5 = .ok (.if_icmp .ge 16, 3) := by decide +kernel
theorem dX8_reads_8 : decode cX8_reads 8 = .ok (.aload_n 0, 1) := by decide +kernel
theorem dX8_reads_9 : decode cX8_reads 9 = .ok (.getfield 17, 3) := by decide +kernel
theorem dX8_reads_12 : decode cX8_reads 12 = .ok (.iload_n 1, 1) := by decide +kernel
theorem dX8_reads_13 : decode cX8_reads 13 = .ok (.iconst 0, 1) := by decide +kernel
theorem dX8_reads_14 : decode cX8_reads 14 = .ok (.iastore, 1) := by decide +kernel
theorem dX8_reads_15 : decode cX8_reads 15 = .ok (.iinc 1 1, 3) := by decide +kernel
theorem dX8_reads_18 : decode cX8_reads 18 = .ok (.goto (-16), 3) := by decide +kernel
theorem dX8_reads_21 : decode cX8_reads 21 = .ok (.aload_n 0, 1) := by decide +kernel
theorem dX8_reads_22 : decode cX8_reads 22 = .ok (.getfield 17, 3) := by decide +kernel
theorem dX8_reads_25 : decode cX8_reads 25 = .ok (.iconst 1, 1) := by decide +kernel
theorem dX8_reads_26 : decode cX8_reads 26 = .ok (.sipush 1000, 3) := by decide +kernel
theorem dX8_reads_29 : decode cX8_reads 29 = .ok (.iastore, 1) := by decide +kernel
theorem dX8_reads_30 : decode cX8_reads 30 = .ok (.aload_n 0, 1) := by decide +kernel
theorem dX8_reads_31 : decode cX8_reads 31 = .ok (.iconst 0, 1) := by decide +kernel
theorem dX8_reads_32 : decode cX8_reads 32 = .ok (.putfield 70, 3) := by decide +kernel
theorem dX8_reads_35 : decode cX8_reads 35 = .ok (.aload_n 0, 1) := by decide +kernel
theorem dX8_reads_36 : decode cX8_reads 36 = .ok (.getfield 70, 3) := by decide +kernel
theorem dX8_reads_39 : decode cX8_reads 39 = .ok (.aload_n 0, 1) := by decide +kernel
theorem dX8_reads_40 : decode cX8_reads 40 = .ok (.getfield 67, 3) := by decide +kernel
theorem dX8_reads_43 : decode cX8_reads 43 = .ok (.if_icmp .ge 118, 3) := by decide +kernel
theorem dX8_reads_46 : decode cX8_reads 46 = .ok (.aload_n 0, 1) := by decide +kernel
theorem dX8_reads_47 : decode cX8_reads 47 = .ok (.getfield 70, 3) := by decide +kernel
theorem dX8_reads_50 : decode cX8_reads 50 = .ok (.istore_n 1, 1) := by decide +kernel
theorem dX8_reads_51 : decode cX8_reads 51 = .ok (.aload_n 0, 1) := by decide +kernel
theorem dX8_reads_52 : decode cX8_reads 52 = .ok (.iconst 1, 1) := by decide +kernel
theorem dX8_reads_53 : decode cX8_reads 53 = .ok (.putfield 77, 3) := by decide +kernel
theorem dX8_reads_56 : decode cX8_reads 56 = .ok (.aload_n 0, 1) := by decide +kernel
theorem dX8_reads_57 : decode cX8_reads 57 = .ok (.bipush 118, 2) := by decide +kernel
theorem dX8_reads_59 : decode cX8_reads 59 = .ok (.invokevirtual 73, 3) := by decide +kernel
theorem dX8_reads_62 : decode cX8_reads 62 = .ok (.ifCond .eq 56, 3) := by decide +kernel
theorem dX8_reads_65 : decode cX8_reads 65 = .ok (.aload_n 0, 1) := by decide +kernel
theorem dX8_reads_66 : decode cX8_reads 66 = .ok (.dup, 1) := by decide +kernel
theorem dX8_reads_67 : decode cX8_reads 67 = .ok (.getfield 70, 3) := by decide +kernel
theorem dX8_reads_70 : decode cX8_reads 70 = .ok (.iconst 1, 1) := by decide +kernel
theorem dX8_reads_71 : decode cX8_reads 71 = .ok (.iadd, 1) := by decide +kernel
theorem dX8_reads_72 : decode cX8_reads 72 = .ok (.putfield 70, 3) := by decide +kernel
theorem dX8_reads_75 : decode cX8_reads 75 = .ok (.aload_n 0, 1) := by decide +kernel
theorem dX8_reads_76 : decode cX8_reads 76 = .ok (.sipush 800, 3) := by decide +kernel
theorem dX8_reads_79 : decode cX8_reads 79 = .ok (.sipush 1200, 3) := by decide +kernel
theorem dX8_reads_82 : decode cX8_reads 82 = .ok (.invokevirtual 92, 3) := by decide +kernel
theorem dX8_reads_85 : decode cX8_reads 85 = .ok (.istore_n 2, 1) := by decide +kernel
theorem dX8_reads_86 : decode cX8_reads 86 = .ok (.aload_n 0, 1) := by decide +kernel
theorem dX8_reads_87 : decode cX8_reads 87 = .ok (.bipush 59, 2) := by decide +kernel
theorem dX8_reads_89 : decode cX8_reads 89 = .ok (.invokevirtual 81, 3) := by decide +kernel
theorem dX8_reads_92 : decode cX8_reads 92 = .ok (.aload_n 0, 1) := by decide +kernel
theorem dX8_reads_93 : decode cX8_reads 93 = .ok (.getfield 17, 3) := by decide +kernel
theorem dX8_reads_96 : decode cX8_reads 96 = .ok (.iconst 1, 1) := by decide +kernel
theorem dX8_reads_97 : decode cX8_reads 97 = .ok (.aload_n 0, 1) := by decide +kernel
theorem dX8_reads_98 : decode cX8_reads 98 = .ok (.getfield 77, 3) := by decide +kernel
theorem dX8_reads_101 : decode cX8_reads 101 = .ok (.ifCond .eq 7, 3) := by decide +kernel
theorem dX8_reads_104 : decode cX8_reads 104 = .ok (.iload_n 2, 1) := by decide +kernel
theorem dX8_reads_105 : decode cX8_reads 105 = .ok (.goto 9, 3) := by decide +kernel
theorem dX8_reads_108 : decode cX8_reads 108 = .ok (.aload_n 0, 1) := by decide +kernel
theorem dX8_reads_109 : decode cX8_reads 109 = .ok (.getfield 17, 3) := by decide +kernel
theorem dX8_reads_112 : decode cX8_reads 112 = .ok (.iconst 1, 1) := by decide +kernel
theorem dX8_reads_113 : decode cX8_reads 113 = .ok (.iaload, 1) := by decide +kernel
theorem dX8_reads_114 : decode cX8_reads 114 = .ok (.iastore, 1) := by decide +kernel
theorem dX8_reads_115 : decode cX8_reads 115 = .ok (.goto 34, 3) := by decide +kernel
theorem dX8_reads_118 : decode cX8_reads 118 = .ok (.aload_n 0, 1) := by decide +kernel
theorem dX8_reads_119 : decode cX8_reads 119 = .ok (.bipush 115, 2) := by decide +kernel
theorem dX8_reads_121 : decode cX8_reads 121 = .ok (.invokevirtual 73, 3) := by decide +kernel
theorem dX8_reads_124 : decode cX8_reads 124 = .ok (.ifCond .eq 20, 3) := by decide +kernel
theorem dX8_reads_127 : decode cX8_reads 127 = .ok (.aload_n 0, 1) := by decide +kernel
theorem dX8_reads_128 : decode cX8_reads 128 = .ok (.dup, 1) := by decide +kernel
theorem dX8_reads_129 : decode cX8_reads 129 = .ok (.getfield 70, 3) := by decide +kernel
theorem dX8_reads_132 : decode cX8_reads 132 = .ok (.iconst 1, 1) := by decide +kernel
theorem dX8_reads_133 : decode cX8_reads 133 = .ok (.iadd, 1) := by decide +kernel
theorem dX8_reads_134 : decode cX8_reads 134 = .ok (.putfield 70, 3) := by decide +kernel
theorem dX8_reads_137 : decode cX8_reads 137 = .ok (.aload_n 0, 1) := by decide +kernel
theorem dX8_reads_138 : decode cX8_reads 138 = .ok (.invokevirtual 96, 3) := by decide +kernel
theorem dX8_reads_141 : decode cX8_reads 141 = .ok (.goto 8, 3) := by decide +kernel
theorem dX8_reads_144 : decode cX8_reads 144 = .ok (.aload_n 0, 1) := by decide +kernel
theorem dX8_reads_145 : decode cX8_reads 145 = .ok (.iconst 0, 1) := by decide +kernel
theorem dX8_reads_146 : decode cX8_reads 146 = .ok (.putfield 77, 3) := by decide +kernel
theorem dX8_reads_149 : decode cX8_reads 149 = .ok (.aload_n 0, 1) := by decide +kernel
theorem dX8_reads_150 : decode cX8_reads 150 = .ok (.getfield 77, 3) := by decide +kernel
theorem dX8_reads_153 : decode cX8_reads 153 = .ok (.ifCond .ne 5, 3) := by decide +kernel
theorem dX8_reads_156 : decode cX8_reads 156 = .ok (.iload_n 1, 1) := by decide +kernel
theorem dX8_reads_157 : decode cX8_reads 157 = .ok (.ireturn, 1) := by decide +kernel
theorem dX8_reads_158 : decode cX8_reads 158 = .ok (.goto (-123), 3) := by decide +kernel
theorem dX8_reads_161 : decode cX8_reads 161 = .ok (.bipush (-4), 2) := by decide +kernel
theorem dX8_reads_163 : decode cX8_reads 163 = .ok (.ireturn, 1) := by decide +kernel
set_option maxRecDepth 20000 in
theorem ggX8_fault_X8_reads : GoodIn wsX8_fault wsX8_reads := goodIn_r _ [6, 7, 8, 9, 10, 11, 12, 13, 5, 14, 15, 16, 17, 18, 19, 20, 21, 22, 23, 24, 25, 26, 27, 28, 29, 30, 31, 32, 33, 34, 35, 36, 37, 38, 39, 40, 41, 42, 43, 44, 45, 46, 47, 48, 49, 50, 51, 52, 53, 54, 55, 56, 57, 58, 59, 60] (by decide +kernel) (by decide +kernel)
set_option maxRecDepth 20000 in
theorem gX8_fault_X8_reads : GoodIn wsX8_fault (wsV RX8 99 RX8 yX8_reads wsX8_reads) := goodIn_app (goodIn_of _ (by decide +kernel)) ggX8_fault_X8_reads
theorem dX8_fault_0 : decode cX8_fault 0 = .ok (.aload_n 0, 1) := by decide +kernel
theorem dX8_fault_1 : decode cX8_fault 1 = .ok (.iconst 0, 1) := by decide +kernel
theorem dX8_fault_2 : decode cX8_fault 2 = .ok (.putfield 59, 3) := by decide +kernel
theorem dX8_fault_5 : decode cX8_fault 5 = .ok (.aload_n 0, 1) := by decide +kernel
theorem dX8_fault_6 : decode cX8_fault 6 = .ok (.invokevirtual 99, 3) := by decide +kernel
theorem dX8_fault_9 : decode cX8_fault 9 = .ok (.ireturn, 1) := by decide +kernel
set_option maxRecDepth 20000 in
theorem ggX8_lay_X8_reads : GoodIn wsX8_lay wsX8_reads := goodIn_r _ [9, 2, 10, 11, 12, 13, 14, 15, 8, 16, 17, 18, 19, 20, 21, 22, 23, 24, 25, 26, 27, 28, 29, 30, 31, 32, 33, 34, 35, 36, 37, 38, 39, 40, 41, 42, 43, 44, 45, 46, 47, 48, 49, 50, 51, 52, 53, 54, 55, 56, 57, 58, 59, 60, 61, 62] (by decide +kernel) (by decide +kernel)
set_option maxRecDepth 20000 in
theorem gX8_lay_X8_reads : GoodIn wsX8_lay (wsV RX8 99 RX8 yX8_reads wsX8_reads) := goodIn_app (goodIn_of _ (by decide +kernel)) ggX8_lay_X8_reads
theorem dX8_lay_0 : decode cX8_lay 0 = .ok (.aload_n 0, 1) := by decide +kernel
theorem dX8_lay_1 : decode cX8_lay 1 = .ok (.iconst 0, 1) := by decide +kernel
theorem dX8_lay_2 : decode cX8_lay 2 = .ok (.putfield 59, 3) := by decide +kernel
theorem dX8_lay_5 : decode cX8_lay 5 = .ok (.aload_n 0, 1) := by decide +kernel
theorem dX8_lay_6 : decode cX8_lay 6 = .ok (.invokevirtual 99, 3) := by decide +kernel
theorem dX8_lay_9 : decode cX8_lay 9 = .ok (.bipush (-4), 2) := by decide +kernel
theorem dX8_lay_11 : decode cX8_lay 11 = .ok (.if_icmp .ne 12, 3) := by decide +kernel
theorem dX8_lay_14 : decode cX8_lay 14 = .ok (.aload_n 0, 1) := by decide +kernel
theorem dX8_lay_15 : decode cX8_lay 15 = .ok (.getfield 17, 3) := by decide +kernel
theorem dX8_lay_18 : decode cX8_lay 18 = .ok (.iconst 0, 1) := by decide +kernel
theorem dX8_lay_19 : decode cX8_lay 19 = .ok (.iaload, 1) := by decide +kernel
theorem dX8_lay_20 : decode cX8_lay 20 = .ok (.ifCond .ne 6, 3) := by decide +kernel
theorem dX8_lay_23 : decode cX8_lay 23 = .ok (.bipush (-2), 2) := by decide +kernel
theorem dX8_lay_25 : decode cX8_lay 25 = .ok (.ireturn, 1) := by decide +kernel
theorem dX8_lay_26 : decode cX8_lay 26 = .ok (.iconst 0, 1) := by decide +kernel
theorem dX8_lay_27 : decode cX8_lay 27 = .ok (.istore_n 1, 1) := by decide +kernel
theorem dX8_lay_28 : decode cX8_lay 28 = .ok (.iload_n 1, 1) := by decide +kernel
theorem dX8_lay_29 : decode cX8_lay 29 = .ok (.bipush 114, 2) := by decide +kernel
theorem dX8_lay_31 : decode cX8_lay 31 = .ok (.if_icmp .ge 41, 3) := by decide +kernel
theorem dX8_lay_34 : decode cX8_lay 34 = .ok (.aload_n 0, 1) := by decide +kernel
theorem dX8_lay_35 : decode cX8_lay 35 = .ok (.getfield 13, 3) := by decide +kernel
theorem dX8_lay_38 : decode cX8_lay 38 = .ok (.iload_n 1, 1) := by decide +kernel
theorem dX8_lay_39 : decode cX8_lay 39 = .ok (.iload_n 1, 1) := by decide +kernel
theorem dX8_lay_40 : decode cX8_lay 40 = .ok (.bipush 6, 2) := by decide +kernel
theorem dX8_lay_42 : decode cX8_lay 42 = .ok (.bipush 12, 2) := by decide +kernel
theorem dX8_lay_44 : decode cX8_lay 44 = .ok (.aload_n 0, 1) := by decide +kernel
theorem dX8_lay_45 : decode cX8_lay 45 = .ok (.getfield 17, 3) := by decide +kernel
theorem dX8_lay_48 : decode cX8_lay 48 = .ok (.iconst 0, 1) := by decide +kernel
theorem dX8_lay_49 : decode cX8_lay 49 = .ok (.iaload, 1) := by decide +kernel
theorem dX8_lay_50 : decode cX8_lay 50 = .ok (.imul, 1) := by decide +kernel
theorem dX8_lay_51 : decode cX8_lay 51 = .ok (.iadd, 1) := by decide +kernel
theorem dX8_lay_52 : decode cX8_lay 52 = .ok (.if_icmp .ge 12, 3) := by decide +kernel
theorem dX8_lay_55 : decode cX8_lay 55 = .ok (.aload_n 0, 1) := by decide +kernel
theorem dX8_lay_56 : decode cX8_lay 56 = .ok (.getfield 17, 3) := by decide +kernel
theorem dX8_lay_59 : decode cX8_lay 59 = .ok (.iload_n 1, 1) := by decide +kernel
theorem dX8_lay_60 : decode cX8_lay 60 = .ok (.iaload, 1) := by decide +kernel
theorem dX8_lay_61 : decode cX8_lay 61 = .ok (.goto 4, 3) := by decide +kernel
theorem dX8_lay_64 : decode cX8_lay 64 = .ok (.iconst 0, 1) := by decide +kernel
theorem dX8_lay_65 : decode cX8_lay 65 = .ok (.iastore, 1) := by decide +kernel
theorem dX8_lay_66 : decode cX8_lay 66 = .ok (.iinc 1 1, 3) := by decide +kernel
theorem dX8_lay_69 : decode cX8_lay 69 = .ok (.goto (-41), 3) := by decide +kernel
theorem dX8_lay_72 : decode cX8_lay 72 = .ok (.aload_n 0, 1) := by decide +kernel
theorem dX8_lay_73 : decode cX8_lay 73 = .ok (.iconst 0, 1) := by decide +kernel
theorem dX8_lay_74 : decode cX8_lay 74 = .ok (.putfield 103, 3) := by decide +kernel
theorem dX8_lay_77 : decode cX8_lay 77 = .ok (.aload_n 0, 1) := by decide +kernel
theorem dX8_lay_78 : decode cX8_lay 78 = .ok (.getfield 13, 3) := by decide +kernel
theorem dX8_lay_81 : decode cX8_lay 81 = .ok (.iconst 0, 1) := by decide +kernel
theorem dX8_lay_82 : decode cX8_lay 82 = .ok (.iaload, 1) := by decide +kernel
theorem dX8_lay_83 : decode cX8_lay 83 = .ok (.ireturn, 1) := by decide +kernel
set_option maxRecDepth 20000 in
theorem ggX8_isStage_X8_in : GoodIn wsX8_isStage wsX8_in := goodIn_r _ [5] (by decide +kernel) (by decide +kernel)
set_option maxRecDepth 20000 in
theorem gX8_isStage_X8_in : GoodIn wsX8_isStage (va_wsS RX8 63 yX8_in wsX8_in) := goodIn_app (goodIn_of _ (by decide +kernel)) ggX8_isStage_X8_in
theorem dX8_isStage_0 : decode cX8_isStage 0 = .ok (.iload_n 1, 1) := by decide +kernel
theorem dX8_isStage_1 : decode cX8_isStage 1 = .ok (.iconst 0, 1) := by decide +kernel
theorem dX8_isStage_2 : decode cX8_isStage 2 = .ok (.aload_n 0, 1) := by decide +kernel
theorem dX8_isStage_3 : decode cX8_isStage 3 = .ok (.getfield 13, 3) := by decide +kernel
theorem dX8_isStage_6 : decode cX8_isStage 6 = .ok (.iconst 0, 1) := by decide +kernel
theorem dX8_isStage_7 : decode cX8_isStage 7 = .ok (.iaload, 1) := by decide +kernel
theorem dX8_isStage_8 : decode cX8_isStage 8 = .ok (.iconst 1, 1) := by decide +kernel
theorem dX8_isStage_9 : decode cX8_isStage 9 = .ok (.isub, 1) := by decide +kernel
theorem dX8_isStage_10 : decode cX8_isStage 10 = .ok (.invokestatic 63, 3) := by decide +kernel
theorem dX8_isStage_13 : decode cX8_isStage 13 = .ok (.ireturn, 1) := by decide +kernel
theorem dX8_of_0 : decode cX8_of 0 = .ok (.aload_n 0, 1) := by decide +kernel
theorem dX8_of_1 : decode cX8_of 1 = .ok (.getfield 13, 3) := by decide +kernel
theorem dX8_of_4 : decode cX8_of 4 = .ok (.bipush 6, 2) := by decide +kernel
theorem dX8_of_6 : decode cX8_of 6 = .ok (.bipush 12, 2) := by decide +kernel
theorem dX8_of_8 : decode cX8_of 8 = .ok (.iload_n 1, 1) := by decide +kernel
theorem dX8_of_9 : decode cX8_of 9 = .ok (.imul, 1) := by decide +kernel
theorem dX8_of_10 : decode cX8_of 10 = .ok (.iadd, 1) := by decide +kernel
theorem dX8_of_11 : decode cX8_of 11 = .ok (.iload_n 2, 1) := by decide +kernel
theorem dX8_of_12 : decode cX8_of 12 = .ok (.iadd, 1) := by decide +kernel
theorem dX8_of_13 : decode cX8_of 13 = .ok (.iaload, 1) := by decide +kernel
theorem dX8_of_14 : decode cX8_of 14 = .ok (.ireturn, 1) := by decide +kernel
theorem dX8_puts_0 : decode cX8_puts 0 = .ok (.aload_n 0, 1) := by decide +kernel
theorem dX8_puts_1 : decode cX8_puts 1 = .ok (.getfield 13, 3) := by decide +kernel
theorem dX8_puts_4 : decode cX8_puts 4 = .ok (.bipush 6, 2) := by decide +kernel
theorem dX8_puts_6 : decode cX8_puts 6 = .ok (.bipush 12, 2) := by decide +kernel
theorem dX8_puts_8 : decode cX8_puts 8 = .ok (.iload_n 1, 1) := by decide +kernel
theorem dX8_puts_9 : decode cX8_puts 9 = .ok (.imul, 1) := by decide +kernel
theorem dX8_puts_10 : decode cX8_puts 10 = .ok (.iadd, 1) := by decide +kernel
theorem dX8_puts_11 : decode cX8_puts 11 = .ok (.iload_n 2, 1) := by decide +kernel
theorem dX8_puts_12 : decode cX8_puts 12 = .ok (.iadd, 1) := by decide +kernel
theorem dX8_puts_13 : decode cX8_puts 13 = .ok (.iload_n 3, 1) := by decide +kernel
theorem dX8_puts_14 : decode cX8_puts 14 = .ok (.iastore, 1) := by decide +kernel
theorem dX8_puts_15 : decode cX8_puts 15 = .ok (.return_, 1) := by decide +kernel
set_option maxRecDepth 20000 in
theorem ggX8_goodOf_X8_of : GoodIn wsX8_goodOf wsX8_of := goodIn_r _ [6, 7, 8, 9, 10, 11, 12, 13, 14, 15, 16, 17, 18, 19, 20, 21, 22, 23, 24, 25, 26, 27, 28, 29, 30, 31] (by decide +kernel) (by decide +kernel)
set_option maxRecDepth 20000 in
theorem gX8_goodOf_X8_of : GoodIn wsX8_goodOf (wsV RX8 106 RX8 yX8_of wsX8_of) := goodIn_app (goodIn_of _ (by decide +kernel)) ggX8_goodOf_X8_of
theorem dX8_goodOf_0 : decode cX8_goodOf 0 = .ok (.aload_n 0, 1) := by decide +kernel
theorem dX8_goodOf_1 : decode cX8_goodOf 1 = .ok (.getfield 29, 3) := by decide +kernel
theorem dX8_goodOf_4 : decode cX8_goodOf 4 = .ok (.iload_n 1, 1) := by decide +kernel
theorem dX8_goodOf_5 : decode cX8_goodOf 5 = .ok (.iaload, 1) := by decide +kernel
theorem dX8_goodOf_6 : decode cX8_goodOf 6 = .ok (.aload_n 0, 1) := by decide +kernel
theorem dX8_goodOf_7 : decode cX8_goodOf 7 = .ok (.iload_n 1, 1) := by decide +kernel
theorem dX8_goodOf_8 : decode cX8_goodOf 8 = .ok (.iconst 1, 1) := by decide +kernel
theorem dX8_goodOf_9 : decode cX8_goodOf 9 = .ok (.invokevirtual 106, 3) := by decide +kernel
theorem dX8_goodOf_12 : decode cX8_goodOf 12 = .ok (.aload_n 0, 1) := by decide +kernel
theorem dX8_goodOf_13 : decode cX8_goodOf 13 = .ok (.iload_n 1, 1) := by decide +kernel
theorem dX8_goodOf_14 : decode cX8_goodOf 14 = .ok (.iconst 2, 1) := by decide +kernel
theorem dX8_goodOf_15 : decode cX8_goodOf 15 = .ok (.invokevirtual 106, 3) := by decide +kernel
theorem dX8_goodOf_18 : decode cX8_goodOf 18 = .ok (.isub, 1) := by decide +kernel
theorem dX8_goodOf_19 : decode cX8_goodOf 19 = .ok (.if_icmp .ge 7, 3) := by decide +kernel
theorem dX8_goodOf_22 : decode cX8_goodOf 22 = .ok (.iconst 1, 1) := by decide +kernel
theorem dX8_goodOf_23 : decode cX8_goodOf 23 = .ok (.goto 30, 3) := by decide +kernel
theorem dX8_goodOf_26 : decode cX8_goodOf 26 = .ok (.aload_n 0, 1) := by decide +kernel
theorem dX8_goodOf_27 : decode cX8_goodOf 27 = .ok (.getfield 29, 3) := by decide +kernel
theorem dX8_goodOf_30 : decode cX8_goodOf 30 = .ok (.iload_n 1, 1) := by decide +kernel
theorem dX8_goodOf_31 : decode cX8_goodOf 31 = .ok (.iaload, 1) := by decide +kernel
theorem dX8_goodOf_32 : decode cX8_goodOf 32 = .ok (.aload_n 0, 1) := by decide +kernel
theorem dX8_goodOf_33 : decode cX8_goodOf 33 = .ok (.iload_n 1, 1) := by decide +kernel
theorem dX8_goodOf_34 : decode cX8_goodOf 34 = .ok (.iconst 1, 1) := by decide +kernel
theorem dX8_goodOf_35 : decode cX8_goodOf 35 = .ok (.invokevirtual 106, 3) := by decide +kernel
theorem dX8_goodOf_38 : decode cX8_goodOf 38 = .ok (.aload_n 0, 1) := by decide +kernel
theorem dX8_goodOf_39 : decode cX8_goodOf 39 = .ok (.iload_n 1, 1) := by decide +kernel
theorem dX8_goodOf_40 : decode cX8_goodOf 40 = .ok (.iconst 2, 1) := by decide +kernel
theorem dX8_goodOf_41 : decode cX8_goodOf 41 = .ok (.invokevirtual 106, 3) := by decide +kernel
theorem dX8_goodOf_44 : decode cX8_goodOf 44 = .ok (.iadd, 1) := by decide +kernel
theorem dX8_goodOf_45 : decode cX8_goodOf 45 = .ok (.if_icmp .le 7, 3) := by decide +kernel
theorem dX8_goodOf_48 : decode cX8_goodOf 48 = .ok (.iconst 2, 1) := by decide +kernel
theorem dX8_goodOf_49 : decode cX8_goodOf 49 = .ok (.goto 4, 3) := by decide +kernel
theorem dX8_goodOf_52 : decode cX8_goodOf 52 = .ok (.iconst 0, 1) := by decide +kernel
theorem dX8_goodOf_53 : decode cX8_goodOf 53 = .ok (.ireturn, 1) := by decide +kernel
set_option maxRecDepth 20000 in
theorem ggX8_lays_X8_of : GoodIn wsX8_lays wsX8_of := goodIn_r _ [11, 1, 22, 23, 24, 25, 26, 27, 28, 29, 30, 31, 32, 33, 34, 35, 36, 37, 38, 39, 40, 41, 42, 43, 44, 45] (by decide +kernel) (by decide +kernel)
set_option maxRecDepth 20000 in
theorem gX8_lays_X8_of : GoodIn wsX8_lays (wsV RX8 106 RX8 yX8_of wsX8_of) := goodIn_app (goodIn_of _ (by decide +kernel)) ggX8_lays_X8_of
set_option maxRecDepth 20000 in
theorem ggX8_lays_X8_goodOf : GoodIn wsX8_lays wsX8_goodOf := goodIn_r _ [15, 4, 7, 8, 9, 10, 11, 1, 22, 23, 24, 25, 26, 27, 28, 29, 30, 31, 32, 33, 34, 35, 36, 37, 38, 39, 40, 41, 42, 43, 44, 45] (by decide +kernel) (by decide +kernel)
set_option maxRecDepth 20000 in
theorem gX8_lays_X8_goodOf : GoodIn wsX8_lays (wsV RX8 109 RX8 yX8_goodOf wsX8_goodOf) := goodIn_app (goodIn_of _ (by decide +kernel)) ggX8_lays_X8_goodOf
set_option maxRecDepth 20000 in
theorem ggX8_lays_X8_way : GoodIn wsX8_lays wsX8_way := goodIn_r _ [18] (by decide +kernel) (by decide +kernel)
set_option maxRecDepth 20000 in
theorem gX8_lays_X8_way : GoodIn wsX8_lays (va_wsS RX8 112 yX8_way wsX8_way) := goodIn_app (goodIn_of _ (by decide +kernel)) ggX8_lays_X8_way
set_option maxRecDepth 20000 in
theorem ggX8_lays_X8_in : GoodIn wsX8_lays wsX8_in := goodIn_r _ [21] (by decide +kernel) (by decide +kernel)
set_option maxRecDepth 20000 in
theorem gX8_lays_X8_in : GoodIn wsX8_lays (va_wsS RX8 63 yX8_in wsX8_in) := goodIn_app (goodIn_of _ (by decide +kernel)) ggX8_lays_X8_in
theorem dX8_lays_0 : decode cX8_lays 0 = .ok (.iconst 0, 1) := by decide +kernel
theorem dX8_lays_1 : decode cX8_lays 1 = .ok (.istore_n 1, 1) := by decide +kernel
theorem dX8_lays_2 : decode cX8_lays 2 = .ok (.aload_n 0, 1) := by decide +kernel
theorem dX8_lays_3 : decode cX8_lays 3 = .ok (.getfield 13, 3) := by decide +kernel
theorem dX8_lays_6 : decode cX8_lays 6 = .ok (.iconst 0, 1) := by decide +kernel
theorem dX8_lays_7 : decode cX8_lays 7 = .ok (.iaload, 1) := by decide +kernel
theorem dX8_lays_8 : decode cX8_lays 8 = .ok (.iconst 1, 1) := by decide +kernel
theorem dX8_lays_9 : decode cX8_lays 9 = .ok (.isub, 1) := by decide +kernel
theorem dX8_lays_10 : decode cX8_lays 10 = .ok (.istore_n 2, 1) := by decide +kernel
theorem dX8_lays_11 : decode cX8_lays 11 = .ok (.iload_n 2, 1) := by decide +kernel
theorem dX8_lays_12 : decode cX8_lays 12 = .ok (.ifCond .lt 25, 3) := by decide +kernel
theorem dX8_lays_15 : decode cX8_lays 15 = .ok (.iload_n 1, 1) := by decide +kernel
theorem dX8_lays_16 : decode cX8_lays 16 = .ok (.aload_n 0, 1) := by decide +kernel
theorem dX8_lays_17 : decode cX8_lays 17 = .ok (.iload_n 2, 1) := by decide +kernel
theorem dX8_lays_18 : decode cX8_lays 18 = .ok (.iconst 5, 1) := by decide +kernel
theorem dX8_lays_19 : decode cX8_lays 19 = .ok (.invokevirtual 106, 3) := by decide +kernel
theorem dX8_lays_22 : decode cX8_lays 22 = .ok (.iadd, 1) := by decide +kernel
theorem dX8_lays_23 : decode cX8_lays 23 = .ok (.istore_n 1, 1) := by decide +kernel
theorem dX8_lays_24 : decode cX8_lays 24 = .ok (.aload_n 0, 1) := by decide +kernel
theorem dX8_lays_25 : decode cX8_lays 25 = .ok (.getfield 23, 3) := by decide +kernel
theorem dX8_lays_28 : decode cX8_lays 28 = .ok (.iload_n 2, 1) := by decide +kernel
theorem dX8_lays_29 : decode cX8_lays 29 = .ok (.iload_n 1, 1) := by decide +kernel
theorem dX8_lays_30 : decode cX8_lays 30 = .ok (.iastore, 1) := by decide +kernel
theorem dX8_lays_31 : decode cX8_lays 31 = .ok (.iinc 2 (-1), 3) := by decide +kernel
theorem dX8_lays_34 : decode cX8_lays 34 = .ok (.goto (-23), 3) := by decide +kernel
theorem dX8_lays_37 : decode cX8_lays 37 = .ok (.iconst 0, 1) := by decide +kernel
theorem dX8_lays_38 : decode cX8_lays 38 = .ok (.istore_n 2, 1) := by decide +kernel
theorem dX8_lays_39 : decode cX8_lays 39 = .ok (.iload_n 2, 1) := by decide +kernel
theorem dX8_lays_40 : decode cX8_lays 40 = .ok (.aload_n 0, 1) := by decide +kernel
theorem dX8_lays_41 : decode cX8_lays 41 = .ok (.getfield 13, 3) := by decide +kernel
theorem dX8_lays_44 : decode cX8_lays 44 = .ok (.iconst 0, 1) := by decide +kernel
theorem dX8_lays_45 : decode cX8_lays 45 = .ok (.iaload, 1) := by decide +kernel
theorem dX8_lays_46 : decode cX8_lays 46 = .ok (.if_icmp .ge 195, 3) := by decide +kernel
theorem dX8_lays_49 : decode cX8_lays 49 = .ok (.aload_n 0, 1) := by decide +kernel
theorem dX8_lays_50 : decode cX8_lays 50 = .ok (.getfield 26, 3) := by decide +kernel
theorem dX8_lays_53 : decode cX8_lays 53 = .ok (.iload_n 2, 1) := by decide +kernel
theorem dX8_lays_54 : decode cX8_lays 54 = .ok (.iload_n 2, 1) := by decide +kernel
theorem dX8_lays_55 : decode cX8_lays 55 = .ok (.ifCond .ne 12, 3) := by decide +kernel
theorem dX8_lays_58 : decode cX8_lays 58 = .ok (.aload_n 0, 1) := by decide +kernel
theorem dX8_lays_59 : decode cX8_lays 59 = .ok (.getfield 13, 3) := by decide +kernel
theorem dX8_lays_62 : decode cX8_lays 62 = .ok (.iconst 1, 1) := by decide +kernel
theorem dX8_lays_63 : decode cX8_lays 63 = .ok (.iaload, 1) := by decide +kernel
theorem dX8_lays_64 : decode cX8_lays 64 = .ok (.goto 31, 3) := by decide +kernel
theorem dX8_lays_67 : decode cX8_lays 67 = .ok (.aload_n 0, 1) := by decide +kernel
theorem dX8_lays_68 : decode cX8_lays 68 = .ok (.getfield 29, 3) := by decide +kernel
theorem dX8_lays_71 : decode cX8_lays 71 = .ok (.iload_n 2, 1) := by decide +kernel
theorem dX8_lays_72 : decode cX8_lays 72 = .ok (.iconst 1, 1) := by decide +kernel
theorem dX8_lays_73 : decode cX8_lays 73 = .ok (.isub, 1) := by decide +kernel
theorem dX8_lays_74 : decode cX8_lays 74 = .ok (.iaload, 1) := by decide +kernel
theorem dX8_lays_75 : decode cX8_lays 75 = .ok (.aload_n 0, 1) := by decide +kernel
theorem dX8_lays_76 : decode cX8_lays 76 = .ok (.iload_n 2, 1) := by decide +kernel
theorem dX8_lays_77 : decode cX8_lays 77 = .ok (.iconst 1, 1) := by decide +kernel
theorem dX8_lays_78 : decode cX8_lays 78 = .ok (.isub, 1) := by decide +kernel
theorem dX8_lays_79 : decode cX8_lays 79 = .ok (.bipush 6, 2) := by decide +kernel
theorem dX8_lays_81 : decode cX8_lays 81 = .ok (.invokevirtual 106, 3) := by decide +kernel
theorem dX8_lays_84 : decode cX8_lays 84 = .ok (.aload_n 0, 1) := by decide +kernel
theorem dX8_lays_85 : decode cX8_lays 85 = .ok (.getfield 23, 3) := by decide +kernel
theorem dX8_lays_88 : decode cX8_lays 88 = .ok (.iload_n 2, 1) := by decide +kernel
theorem dX8_lays_89 : decode cX8_lays 89 = .ok (.iaload, 1) := by decide +kernel
theorem dX8_lays_90 : decode cX8_lays 90 = .ok (.imul, 1) := by decide +kernel
theorem dX8_lays_91 : decode cX8_lays 91 = .ok (.bipush 10, 2) := by decide +kernel
theorem dX8_lays_93 : decode cX8_lays 93 = .ok (.idiv, 1) := by decide +kernel
theorem dX8_lays_94 : decode cX8_lays 94 = .ok (.isub, 1) := by decide +kernel
theorem dX8_lays_95 : decode cX8_lays 95 = .ok (.iastore, 1) := by decide +kernel
theorem dX8_lays_96 : decode cX8_lays 96 = .ok (.aload_n 0, 1) := by decide +kernel
theorem dX8_lays_97 : decode cX8_lays 97 = .ok (.getfield 29, 3) := by decide +kernel
theorem dX8_lays_100 : decode cX8_lays 100 = .ok (.iload_n 2, 1) := by decide +kernel
theorem dX8_lays_101 : decode cX8_lays 101 = .ok (.aload_n 0, 1) := by decide +kernel
theorem dX8_lays_102 : decode cX8_lays 102 = .ok (.getfield 26, 3) := by decide +kernel
theorem dX8_lays_105 : decode cX8_lays 105 = .ok (.iload_n 2, 1) := by decide +kernel
theorem dX8_lays_106 : decode cX8_lays 106 = .ok (.iaload, 1) := by decide +kernel
theorem dX8_lays_107 : decode cX8_lays 107 = .ok (.sipush 1000, 3) := by decide +kernel
theorem dX8_lays_110 : decode cX8_lays 110 = .ok (.aload_n 0, 1) := by decide +kernel
theorem dX8_lays_111 : decode cX8_lays 111 = .ok (.iload_n 2, 1) := by decide +kernel
theorem dX8_lays_112 : decode cX8_lays 112 = .ok (.bipush 7, 2) := by decide +kernel
theorem dX8_lays_114 : decode cX8_lays 114 = .ok (.invokevirtual 106, 3) := by decide +kernel
theorem dX8_lays_117 : decode cX8_lays 117 = .ok (.aload_n 0, 1) := by decide +kernel
theorem dX8_lays_118 : decode cX8_lays 118 = .ok (.iload_n 2, 1) := by decide +kernel
theorem dX8_lays_119 : decode cX8_lays 119 = .ok (.iconst 0, 1) := by decide +kernel
theorem dX8_lays_120 : decode cX8_lays 120 = .ok (.invokevirtual 106, 3) := by decide +kernel
theorem dX8_lays_123 : decode cX8_lays 123 = .ok (.imul, 1) := by decide +kernel
theorem dX8_lays_124 : decode cX8_lays 124 = .ok (.iadd, 1) := by decide +kernel
theorem dX8_lays_125 : decode cX8_lays 125 = .ok (.imul, 1) := by decide +kernel
theorem dX8_lays_126 : decode cX8_lays 126 = .ok (.sipush 1000, 3) := by decide +kernel
theorem dX8_lays_129 : decode cX8_lays 129 = .ok (.idiv, 1) := by decide +kernel
theorem dX8_lays_130 : decode cX8_lays 130 = .ok (.iastore, 1) := by decide +kernel
theorem dX8_lays_131 : decode cX8_lays 131 = .ok (.aload_n 0, 1) := by decide +kernel
theorem dX8_lays_132 : decode cX8_lays 132 = .ok (.iload_n 2, 1) := by decide +kernel
theorem dX8_lays_133 : decode cX8_lays 133 = .ok (.invokevirtual 109, 3) := by decide +kernel
theorem dX8_lays_136 : decode cX8_lays 136 = .ok (.istore_n 3, 1) := by decide +kernel
theorem dX8_lays_137 : decode cX8_lays 137 = .ok (.aload_n 0, 1) := by decide +kernel
theorem dX8_lays_138 : decode cX8_lays 138 = .ok (.getfield 23, 3) := by decide +kernel
theorem dX8_lays_141 : decode cX8_lays 141 = .ok (.iload_n 2, 1) := by decide +kernel
theorem dX8_lays_142 : decode cX8_lays 142 = .ok (.iaload, 1) := by decide +kernel
theorem dX8_lays_143 : decode cX8_lays 143 = .ok (.ifCond .ge 39, 3) := by decide +kernel
theorem dX8_lays_146 : decode cX8_lays 146 = .ok (.iload_n 3, 1) := by decide +kernel
theorem dX8_lays_147 : decode cX8_lays 147 = .ok (.ifCond .le 35, 3) := by decide +kernel
theorem dX8_lays_150 : decode cX8_lays 150 = .ok (.aload_n 0, 1) := by decide +kernel
theorem dX8_lays_151 : decode cX8_lays 151 = .ok (.iload_n 2, 1) := by decide +kernel
theorem dX8_lays_152 : decode cX8_lays 152 = .ok (.iconst 4, 1) := by decide +kernel
theorem dX8_lays_153 : decode cX8_lays 153 = .ok (.invokevirtual 106, 3) := by decide +kernel
theorem dX8_lays_156 : decode cX8_lays 156 = .ok (.iconst 1, 1) := by decide +kernel
theorem dX8_lays_157 : decode cX8_lays 157 = .ok (.if_icmp .ne 7, 3) := by decide +kernel
theorem dX8_lays_160 : decode cX8_lays 160 = .ok (.iconst 0, 1) := by decide +kernel
theorem dX8_lays_161 : decode cX8_lays 161 = .ok (.goto 20, 3) := by decide +kernel
theorem dX8_lays_164 : decode cX8_lays 164 = .ok (.aload_n 0, 1) := by decide +kernel
theorem dX8_lays_165 : decode cX8_lays 165 = .ok (.iload_n 2, 1) := by decide +kernel
theorem dX8_lays_166 : decode cX8_lays 166 = .ok (.iconst 4, 1) := by decide +kernel
theorem dX8_lays_167 : decode cX8_lays 167 = .ok (.invokevirtual 106, 3) := by decide +kernel
theorem dX8_lays_170 : decode cX8_lays 170 = .ok (.iconst 2, 1) := by decide +kernel
theorem dX8_lays_171 : decode cX8_lays 171 = .ok (.if_icmp .ne 9, 3) := by decide +kernel
theorem dX8_lays_174 : decode cX8_lays 174 = .ok (.iconst 3, 1) := by decide +kernel
theorem dX8_lays_175 : decode cX8_lays 175 = .ok (.iload_n 3, 1) := by decide +kernel
theorem dX8_lays_176 : decode cX8_lays 176 = .ok (.isub, 1) := by decide +kernel
theorem dX8_lays_177 : decode cX8_lays 177 = .ok (.goto 4, 3) := by decide +kernel
theorem dX8_lays_180 : decode cX8_lays 180 = .ok (.iload_n 3, 1) := by decide +kernel
theorem dX8_lays_181 : decode cX8_lays 181 = .ok (.istore_n 3, 1) := by decide +kernel
theorem dX8_lays_182 : decode cX8_lays 182 = .ok (.aload_n 0, 1) := by decide +kernel
theorem dX8_lays_183 : decode cX8_lays 183 = .ok (.getfield 32, 3) := by decide +kernel
theorem dX8_lays_186 : decode cX8_lays 186 = .ok (.iload_n 2, 1) := by decide +kernel
theorem dX8_lays_187 : decode cX8_lays 187 = .ok (.iload_n 3, 1) := by decide +kernel
theorem dX8_lays_188 : decode cX8_lays 188 = .ok (.iastore, 1) := by decide +kernel
theorem dX8_lays_189 : decode cX8_lays 189 = .ok (.aload_n 0, 1) := by decide +kernel
theorem dX8_lays_190 : decode cX8_lays 190 = .ok (.getfield 35, 3) := by decide +kernel
theorem dX8_lays_193 : decode cX8_lays 193 = .ok (.iload_n 2, 1) := by decide +kernel
theorem dX8_lays_194 : decode cX8_lays 194 = .ok (.iload_n 3, 1) := by decide +kernel
theorem dX8_lays_195 : decode cX8_lays 195 = .ok (.ifCond .le 38, 3) := by decide +kernel
theorem dX8_lays_198 : decode cX8_lays 198 = .ok (.aload_n 0, 1) := by decide +kernel
theorem dX8_lays_199 : decode cX8_lays 199 = .ok (.iload_n 2, 1) := by decide +kernel
theorem dX8_lays_200 : decode cX8_lays 200 = .ok (.bipush 8, 2) := by decide +kernel
theorem dX8_lays_202 : decode cX8_lays 202 = .ok (.invokevirtual 106, 3) := by decide +kernel
theorem dX8_lays_205 : decode cX8_lays 205 = .ok (.ifCond .ne 28, 3) := by decide +kernel
theorem dX8_lays_208 : decode cX8_lays 208 = .ok (.aload_n 0, 1) := by decide +kernel
theorem dX8_lays_209 : decode cX8_lays 209 = .ok (.iload_n 2, 1) := by decide +kernel
theorem dX8_lays_210 : decode cX8_lays 210 = .ok (.bipush 7, 2) := by decide +kernel
theorem dX8_lays_212 : decode cX8_lays 212 = .ok (.invokevirtual 106, 3) := by decide +kernel
theorem dX8_lays_215 : decode cX8_lays 215 = .ok (.iload_n 3, 1) := by decide +kernel
theorem dX8_lays_216 : decode cX8_lays 216 = .ok (.invokestatic 112, 3) := by decide +kernel
theorem dX8_lays_219 : decode cX8_lays 219 = .ok (.iadd, 1) := by decide +kernel
theorem dX8_lays_220 : decode cX8_lays 220 = .ok (.bipush (-5), 2) := by decide +kernel
theorem dX8_lays_222 : decode cX8_lays 222 = .ok (.iconst 5, 1) := by decide +kernel
theorem dX8_lays_223 : decode cX8_lays 223 = .ok (.invokestatic 63, 3) := by decide +kernel
theorem dX8_lays_226 : decode cX8_lays 226 = .ok (.ifCond .eq 7, 3) := by decide +kernel
theorem dX8_lays_229 : decode cX8_lays 229 = .ok (.iconst 1, 1) := by decide +kernel
theorem dX8_lays_230 : decode cX8_lays 230 = .ok (.goto 4, 3) := by decide +kernel
theorem dX8_lays_233 : decode cX8_lays 233 = .ok (.iconst 0, 1) := by decide +kernel
theorem dX8_lays_234 : decode cX8_lays 234 = .ok (.bastore, 1) := by decide +kernel
theorem dX8_lays_235 : decode cX8_lays 235 = .ok (.iinc 2 1, 3) := by decide +kernel
theorem dX8_lays_238 : decode cX8_lays 238 = .ok (.goto (-199), 3) := by decide +kernel
theorem dX8_lays_241 : decode cX8_lays 241 = .ok (.return_, 1) := by decide +kernel
theorem dX8_way_0 : decode cX8_way 0 = .ok (.iload_n 0, 1) := by decide +kernel
theorem dX8_way_1 : decode cX8_way 1 = .ok (.iconst 1, 1) := by decide +kernel
theorem dX8_way_2 : decode cX8_way 2 = .ok (.if_icmp .ne 7, 3) := by decide +kernel
theorem dX8_way_5 : decode cX8_way 5 = .ok (.iconst 1, 1) := by decide +kernel
theorem dX8_way_6 : decode cX8_way 6 = .ok (.goto 13, 3) := by decide +kernel
theorem dX8_way_9 : decode cX8_way 9 = .ok (.iload_n 0, 1) := by decide +kernel
theorem dX8_way_10 : decode cX8_way 10 = .ok (.iconst 2, 1) := by decide +kernel
theorem dX8_way_11 : decode cX8_way 11 = .ok (.if_icmp .ne 7, 3) := by decide +kernel
theorem dX8_way_14 : decode cX8_way 14 = .ok (.iconst (-1), 1) := by decide +kernel
theorem dX8_way_15 : decode cX8_way 15 = .ok (.goto 4, 3) := by decide +kernel
theorem dX8_way_18 : decode cX8_way 18 = .ok (.iconst 0, 1) := by decide +kernel
theorem dX8_way_19 : decode cX8_way 19 = .ok (.ireturn, 1) := by decide +kernel
theorem dX8_isQuiet_0 : decode cX8_isQuiet 0 = .ok (.iconst 1, 1) := by decide +kernel
theorem dX8_isQuiet_1 : decode cX8_isQuiet 1 = .ok (.istore_n 1, 1) := by decide +kernel
theorem dX8_isQuiet_2 : decode cX8_isQuiet 2 = .ok (.iconst 0, 1) := by decide +kernel
theorem dX8_isQuiet_3 : decode cX8_isQuiet 3 = .ok (.istore_n 2, 1) := by decide +kernel
theorem dX8_isQuiet_4 : decode cX8_isQuiet 4 = .ok (.iload_n 2, 1) := by decide +kernel
theorem dX8_isQuiet_5 : decode cX8_isQuiet 5 = .ok (.aload_n 0, 1) := by decide +kernel
theorem dX8_isQuiet_6 : decode cX8_isQuiet 6 = .ok (.getfield 13, 3) := by decide +kernel
theorem dX8_isQuiet_9 : decode cX8_isQuiet 9 = .ok (.iconst 0, 1) := by decide +kernel
theorem dX8_isQuiet_10 : decode cX8_isQuiet 10 = .ok (.iaload, 1) := by decide +kernel
theorem dX8_isQuiet_11 : decode cX8_isQuiet 11 = .ok (.if_icmp .ge 28, 3) := by decide +kernel
theorem dX8_isQuiet_14 : decode cX8_isQuiet 14 = .ok (.iload_n 1, 1) := by decide +kernel
theorem dX8_isQuiet_15 : decode cX8_isQuiet 15 = .ok (.ifCond .eq 16, 3) := by decide +kernel
theorem dX8_isQuiet_18 : decode cX8_isQuiet 18 = .ok (.aload_n 0, 1) := by decide +kernel
theorem dX8_isQuiet_19 : decode cX8_isQuiet 19 = .ok (.getfield 35, 3) := by decide +kernel
theorem dX8_isQuiet_22 : decode cX8_isQuiet 22 = .ok (.iload_n 2, 1) := by decide +kernel
theorem dX8_isQuiet_23 : decode cX8_isQuiet 23 = .ok (.baload, 1) := by decide +kernel
theorem dX8_isQuiet_24 : decode cX8_isQuiet 24 = .ok (.ifCond .ne 7, 3) := by decide +kernel
theorem dX8_isQuiet_27 : decode cX8_isQuiet 27 = .ok (.iconst 1, 1) := by decide +kernel
theorem dX8_isQuiet_28 : decode cX8_isQuiet 28 = .ok (.goto 4, 3) := by decide +kernel
theorem dX8_isQuiet_31 : decode cX8_isQuiet 31 = .ok (.iconst 0, 1) := by decide +kernel
theorem dX8_isQuiet_32 : decode cX8_isQuiet 32 = .ok (.istore_n 1, 1) := by decide +kernel
theorem dX8_isQuiet_33 : decode cX8_isQuiet 33 = .ok (.iinc 2 1, 3) := by decide +kernel
theorem dX8_isQuiet_36 : decode cX8_isQuiet 36 = .ok (.goto (-32), 3) := by decide +kernel
theorem dX8_isQuiet_39 : decode cX8_isQuiet 39 = .ok (.iload_n 1, 1) := by decide +kernel
theorem dX8_isQuiet_40 : decode cX8_isQuiet 40 = .ok (.ireturn, 1) := by decide +kernel
set_option maxRecDepth 20000 in
theorem ggX8_offOf_X8_of : GoodIn wsX8_offOf wsX8_of := goodIn_r _ [7, 1, 8, 9, 10, 11, 12, 13, 14, 15, 16, 17, 18, 19, 20, 21, 22, 23, 24, 25, 26, 27, 28, 29, 30, 31] (by decide +kernel) (by decide +kernel)
set_option maxRecDepth 20000 in
theorem gX8_offOf_X8_of : GoodIn wsX8_offOf (wsV RX8 106 RX8 yX8_of wsX8_of) := goodIn_app (goodIn_of _ (by decide +kernel)) ggX8_offOf_X8_of
theorem dX8_offOf_0 : decode cX8_offOf 0 = .ok (.iconst 0, 1) := by decide +kernel
theorem dX8_offOf_1 : decode cX8_offOf 1 = .ok (.istore_n 1, 1) := by decide +kernel
theorem dX8_offOf_2 : decode cX8_offOf 2 = .ok (.iconst 0, 1) := by decide +kernel
theorem dX8_offOf_3 : decode cX8_offOf 3 = .ok (.istore_n 2, 1) := by decide +kernel
theorem dX8_offOf_4 : decode cX8_offOf 4 = .ok (.iload_n 2, 1) := by decide +kernel
theorem dX8_offOf_5 : decode cX8_offOf 5 = .ok (.aload_n 0, 1) := by decide +kernel
theorem dX8_offOf_6 : decode cX8_offOf 6 = .ok (.getfield 13, 3) := by decide +kernel
theorem dX8_offOf_9 : decode cX8_offOf 9 = .ok (.iconst 0, 1) := by decide +kernel
theorem dX8_offOf_10 : decode cX8_offOf 10 = .ok (.iaload, 1) := by decide +kernel
theorem dX8_offOf_11 : decode cX8_offOf 11 = .ok (.if_icmp .ge 36, 3) := by decide +kernel
theorem dX8_offOf_14 : decode cX8_offOf 14 = .ok (.aload_n 0, 1) := by decide +kernel
theorem dX8_offOf_15 : decode cX8_offOf 15 = .ok (.getfield 29, 3) := by decide +kernel
theorem dX8_offOf_18 : decode cX8_offOf 18 = .ok (.iload_n 2, 1) := by decide +kernel
theorem dX8_offOf_19 : decode cX8_offOf 19 = .ok (.iaload, 1) := by decide +kernel
theorem dX8_offOf_20 : decode cX8_offOf 20 = .ok (.aload_n 0, 1) := by decide +kernel
theorem dX8_offOf_21 : decode cX8_offOf 21 = .ok (.iload_n 2, 1) := by decide +kernel
theorem dX8_offOf_22 : decode cX8_offOf 22 = .ok (.iconst 1, 1) := by decide +kernel
theorem dX8_offOf_23 : decode cX8_offOf 23 = .ok (.invokevirtual 106, 3) := by decide +kernel
theorem dX8_offOf_26 : decode cX8_offOf 26 = .ok (.isub, 1) := by decide +kernel
theorem dX8_offOf_27 : decode cX8_offOf 27 = .ok (.istore_n 3, 1) := by decide +kernel
theorem dX8_offOf_28 : decode cX8_offOf 28 = .ok (.iload_n 1, 1) := by decide +kernel
theorem dX8_offOf_29 : decode cX8_offOf 29 = .ok (.iload_n 3, 1) := by decide +kernel
theorem dX8_offOf_30 : decode cX8_offOf 30 = .ok (.ifCond .ge 8, 3) := by decide +kernel
theorem dX8_offOf_33 : decode cX8_offOf 33 = .ok (.iload_n 3, 1) := by decide +kernel
theorem dX8_offOf_34 : decode cX8_offOf 34 = .ok (.ineg, 1) := by decide +kernel
theorem dX8_offOf_35 : decode cX8_offOf 35 = .ok (.goto 4, 3) := by decide +kernel
theorem dX8_offOf_38 : decode cX8_offOf 38 = .ok (.iload_n 3, 1) := by decide +kernel
theorem dX8_offOf_39 : decode cX8_offOf 39 = .ok (.iadd, 1) := by decide +kernel
theorem dX8_offOf_40 : decode cX8_offOf 40 = .ok (.istore_n 1, 1) := by decide +kernel
theorem dX8_offOf_41 : decode cX8_offOf 41 = .ok (.iinc 2 1, 3) := by decide +kernel
theorem dX8_offOf_44 : decode cX8_offOf 44 = .ok (.goto (-40), 3) := by decide +kernel
theorem dX8_offOf_47 : decode cX8_offOf 47 = .ok (.iload_n 1, 1) := by decide +kernel
theorem dX8_offOf_48 : decode cX8_offOf 48 = .ok (.ireturn, 1) := by decide +kernel
set_option maxRecDepth 20000 in
theorem ggX8_counts_X8_of : GoodIn wsX8_counts wsX8_of := goodIn_r _ [8, 1, 13, 14, 15, 16, 17, 18, 19, 20, 21, 22, 23, 24, 25, 26, 27, 28, 29, 30, 31, 32, 33, 34, 35, 36] (by decide +kernel) (by decide +kernel)
set_option maxRecDepth 20000 in
theorem gX8_counts_X8_of : GoodIn wsX8_counts (wsV RX8 106 RX8 yX8_of wsX8_of) := goodIn_app (goodIn_of _ (by decide +kernel)) ggX8_counts_X8_of
set_option maxRecDepth 20000 in
theorem ggX8_counts_X8_puts : GoodIn wsX8_counts wsX8_puts := goodIn_r _ [12, 1, 13, 14, 15, 16, 17, 18, 19, 20, 21, 22, 23, 24, 25, 26, 27, 28, 29, 30, 31, 32, 33, 34, 35, 36] (by decide +kernel) (by decide +kernel)
set_option maxRecDepth 20000 in
theorem gX8_counts_X8_puts : GoodIn wsX8_counts (wsV RX8 115 RX8 yX8_puts wsX8_puts) := goodIn_app (goodIn_of _ (by decide +kernel)) ggX8_counts_X8_puts
theorem dX8_counts_0 : decode cX8_counts 0 = .ok (.iconst 0, 1) := by decide +kernel
theorem dX8_counts_1 : decode cX8_counts 1 = .ok (.istore_n 1, 1) := by decide +kernel
theorem dX8_counts_2 : decode cX8_counts 2 = .ok (.iload_n 1, 1) := by decide +kernel
theorem dX8_counts_3 : decode cX8_counts 3 = .ok (.aload_n 0, 1) := by decide +kernel
theorem dX8_counts_4 : decode cX8_counts 4 = .ok (.getfield 13, 3) := by decide +kernel
theorem dX8_counts_7 : decode cX8_counts 7 = .ok (.iconst 0, 1) := by decide +kernel
theorem dX8_counts_8 : decode cX8_counts 8 = .ok (.iaload, 1) := by decide +kernel
theorem dX8_counts_9 : decode cX8_counts 9 = .ok (.if_icmp .ge 98, 3) := by decide +kernel
theorem dX8_counts_12 : decode cX8_counts 12 = .ok (.aload_n 0, 1) := by decide +kernel
theorem dX8_counts_13 : decode cX8_counts 13 = .ok (.iload_n 1, 1) := by decide +kernel
theorem dX8_counts_14 : decode cX8_counts 14 = .ok (.bipush 9, 2) := by decide +kernel
theorem dX8_counts_16 : decode cX8_counts 16 = .ok (.aload_n 0, 1) := by decide +kernel
theorem dX8_counts_17 : decode cX8_counts 17 = .ok (.getfield 32, 3) := by decide +kernel
theorem dX8_counts_20 : decode cX8_counts 20 = .ok (.iload_n 1, 1) := by decide +kernel
theorem dX8_counts_21 : decode cX8_counts 21 = .ok (.iaload, 1) := by decide +kernel
theorem dX8_counts_22 : decode cX8_counts 22 = .ok (.ifCond .ne 7, 3) := by decide +kernel
theorem dX8_counts_25 : decode cX8_counts 25 = .ok (.iconst 0, 1) := by decide +kernel
theorem dX8_counts_26 : decode cX8_counts 26 = .ok (.goto 32, 3) := by decide +kernel
theorem dX8_counts_29 : decode cX8_counts 29 = .ok (.aload_n 0, 1) := by decide +kernel
theorem dX8_counts_30 : decode cX8_counts 30 = .ok (.getfield 32, 3) := by decide +kernel
theorem dX8_counts_33 : decode cX8_counts 33 = .ok (.iload_n 1, 1) := by decide +kernel
theorem dX8_counts_34 : decode cX8_counts 34 = .ok (.iaload, 1) := by decide +kernel
theorem dX8_counts_35 : decode cX8_counts 35 = .ok (.aload_n 0, 1) := by decide +kernel
theorem dX8_counts_36 : decode cX8_counts 36 = .ok (.iload_n 1, 1) := by decide +kernel
theorem dX8_counts_37 : decode cX8_counts 37 = .ok (.bipush 10, 2) := by decide +kernel
theorem dX8_counts_39 : decode cX8_counts 39 = .ok (.invokevirtual 106, 3) := by decide +kernel
theorem dX8_counts_42 : decode cX8_counts 42 = .ok (.if_icmp .ne 15, 3) := by decide +kernel
theorem dX8_counts_45 : decode cX8_counts 45 = .ok (.aload_n 0, 1) := by decide +kernel
theorem dX8_counts_46 : decode cX8_counts 46 = .ok (.iload_n 1, 1) := by decide +kernel
theorem dX8_counts_47 : decode cX8_counts 47 = .ok (.bipush 9, 2) := by decide +kernel
theorem dX8_counts_49 : decode cX8_counts 49 = .ok (.invokevirtual 106, 3) := by decide +kernel
theorem dX8_counts_52 : decode cX8_counts 52 = .ok (.iconst 1, 1) := by decide +kernel
theorem dX8_counts_53 : decode cX8_counts 53 = .ok (.iadd, 1) := by decide +kernel
theorem dX8_counts_54 : decode cX8_counts 54 = .ok (.goto 4, 3) := by decide +kernel
theorem dX8_counts_57 : decode cX8_counts 57 = .ok (.iconst 1, 1) := by decide +kernel
theorem dX8_counts_58 : decode cX8_counts 58 = .ok (.invokevirtual 115, 3) := by decide +kernel
theorem dX8_counts_61 : decode cX8_counts 61 = .ok (.aload_n 0, 1) := by decide +kernel
theorem dX8_counts_62 : decode cX8_counts 62 = .ok (.iload_n 1, 1) := by decide +kernel
theorem dX8_counts_63 : decode cX8_counts 63 = .ok (.bipush 10, 2) := by decide +kernel
theorem dX8_counts_65 : decode cX8_counts 65 = .ok (.aload_n 0, 1) := by decide +kernel
theorem dX8_counts_66 : decode cX8_counts 66 = .ok (.getfield 32, 3) := by decide +kernel
theorem dX8_counts_69 : decode cX8_counts 69 = .ok (.iload_n 1, 1) := by decide +kernel
theorem dX8_counts_70 : decode cX8_counts 70 = .ok (.iaload, 1) := by decide +kernel
theorem dX8_counts_71 : decode cX8_counts 71 = .ok (.invokevirtual 115, 3) := by decide +kernel
theorem dX8_counts_74 : decode cX8_counts 74 = .ok (.aload_n 0, 1) := by decide +kernel
theorem dX8_counts_75 : decode cX8_counts 75 = .ok (.getfield 39, 3) := by decide +kernel
theorem dX8_counts_78 : decode cX8_counts 78 = .ok (.iload_n 1, 1) := by decide +kernel
theorem dX8_counts_79 : decode cX8_counts 79 = .ok (.aload_n 0, 1) := by decide +kernel
theorem dX8_counts_80 : decode cX8_counts 80 = .ok (.iload_n 1, 1) := by decide +kernel
theorem dX8_counts_81 : decode cX8_counts 81 = .ok (.bipush 9, 2) := by decide +kernel
theorem dX8_counts_83 : decode cX8_counts 83 = .ok (.invokevirtual 106, 3) := by decide +kernel
theorem dX8_counts_86 : decode cX8_counts 86 = .ok (.aload_n 0, 1) := by decide +kernel
theorem dX8_counts_87 : decode cX8_counts 87 = .ok (.iload_n 1, 1) := by decide +kernel
theorem dX8_counts_88 : decode cX8_counts 88 = .ok (.iconst 3, 1) := by decide +kernel
theorem dX8_counts_89 : decode cX8_counts 89 = .ok (.invokevirtual 106, 3) := by decide +kernel
theorem dX8_counts_92 : decode cX8_counts 92 = .ok (.if_icmp .lt 7, 3) := by decide +kernel
theorem dX8_counts_95 : decode cX8_counts 95 = .ok (.iconst 1, 1) := by decide +kernel
theorem dX8_counts_96 : decode cX8_counts 96 = .ok (.goto 4, 3) := by decide +kernel
theorem dX8_counts_99 : decode cX8_counts 99 = .ok (.iconst 0, 1) := by decide +kernel
theorem dX8_counts_100 : decode cX8_counts 100 = .ok (.bastore, 1) := by decide +kernel
theorem dX8_counts_101 : decode cX8_counts 101 = .ok (.iinc 1 1, 3) := by decide +kernel
theorem dX8_counts_104 : decode cX8_counts 104 = .ok (.goto (-102), 3) := by decide +kernel
theorem dX8_counts_107 : decode cX8_counts 107 = .ok (.return_, 1) := by decide +kernel
theorem dX8_passesOn_0 : decode cX8_passesOn 0 = .ok (.iconst 0, 1) := by decide +kernel
theorem dX8_passesOn_1 : decode cX8_passesOn 1 = .ok (.istore_n 1, 1) := by decide +kernel
theorem dX8_passesOn_2 : decode cX8_passesOn 2 = .ok (.iload_n 1, 1) := by decide +kernel
theorem dX8_passesOn_3 : decode cX8_passesOn 3 = .ok (.aload_n 0, 1) := by decide +kernel
theorem dX8_passesOn_4 : decode cX8_passesOn 4 = .ok (.getfield 13, 3) := by decide +kernel
theorem dX8_passesOn_7 : decode cX8_passesOn 7 = .ok (.iconst 0, 1) := by decide +kernel
theorem dX8_passesOn_8 : decode cX8_passesOn 8 = .ok (.iaload, 1) := by decide +kernel
theorem dX8_passesOn_9 : decode cX8_passesOn 9 = .ok (.if_icmp .ge 73, 3) := by decide +kernel
theorem dX8_passesOn_12 : decode cX8_passesOn 12 = .ok (.aload_n 0, 1) := by decide +kernel
theorem dX8_passesOn_13 : decode cX8_passesOn 13 = .ok (.getfield 39, 3) := by decide +kernel
theorem dX8_passesOn_16 : decode cX8_passesOn 16 = .ok (.iload_n 1, 1) := by decide +kernel
theorem dX8_passesOn_17 : decode cX8_passesOn 17 = .ok (.baload, 1) := by decide +kernel
theorem dX8_passesOn_18 : decode cX8_passesOn 18 = .ok (.ifCond .eq 58, 3) := by decide +kernel
theorem dX8_passesOn_21 : decode cX8_passesOn 21 = .ok (.aload_n 0, 1) := by decide +kernel
theorem dX8_passesOn_22 : decode cX8_passesOn 22 = .ok (.getfield 35, 3) := by decide +kernel
theorem dX8_passesOn_25 : decode cX8_passesOn 25 = .ok (.iload_n 1, 1) := by decide +kernel
theorem dX8_passesOn_26 : decode cX8_passesOn 26 = .ok (.baload, 1) := by decide +kernel
theorem dX8_passesOn_27 : decode cX8_passesOn 27 = .ok (.ifCond .ne 49, 3) := by decide +kernel
theorem dX8_passesOn_30 : decode cX8_passesOn 30 = .ok (.iload_n 1, 1) := by decide +kernel
theorem dX8_passesOn_31 : decode cX8_passesOn 31 = .ok (.iconst 1, 1) := by decide +kernel
theorem dX8_passesOn_32 : decode cX8_passesOn 32 = .ok (.iadd, 1) := by decide +kernel
theorem dX8_passesOn_33 : decode cX8_passesOn 33 = .ok (.istore_n 2, 1) := by decide +kernel
theorem dX8_passesOn_34 : decode cX8_passesOn 34 = .ok (.iload_n 2, 1) := by decide +kernel
theorem dX8_passesOn_35 : decode cX8_passesOn 35 = .ok (.aload_n 0, 1) := by decide +kernel
theorem dX8_passesOn_36 : decode cX8_passesOn 36 = .ok (.getfield 13, 3) := by decide +kernel
theorem dX8_passesOn_39 : decode cX8_passesOn 39 = .ok (.iconst 0, 1) := by decide +kernel
theorem dX8_passesOn_40 : decode cX8_passesOn 40 = .ok (.iaload, 1) := by decide +kernel
theorem dX8_passesOn_41 : decode cX8_passesOn 41 = .ok (.if_icmp .ge 18, 3) := by decide +kernel
theorem dX8_passesOn_44 : decode cX8_passesOn 44 = .ok (.aload_n 0, 1) := by decide +kernel
theorem dX8_passesOn_45 : decode cX8_passesOn 45 = .ok (.getfield 32, 3) := by decide +kernel
theorem dX8_passesOn_48 : decode cX8_passesOn 48 = .ok (.iload_n 2, 1) := by decide +kernel
theorem dX8_passesOn_49 : decode cX8_passesOn 49 = .ok (.iaload, 1) := by decide +kernel
theorem dX8_passesOn_50 : decode cX8_passesOn 50 = .ok (.ifCond .ne 9, 3) := by decide +kernel
theorem dX8_passesOn_53 : decode cX8_passesOn 53 = .ok (.iinc 2 1, 3) := by decide +kernel
theorem dX8_passesOn_56 : decode cX8_passesOn 56 = .ok (.goto (-22), 3) := by decide +kernel
theorem dX8_passesOn_59 : decode cX8_passesOn 59 = .ok (.iload_n 2, 1) := by decide +kernel
theorem dX8_passesOn_60 : decode cX8_passesOn 60 = .ok (.aload_n 0, 1) := by decide +kernel
theorem dX8_passesOn_61 : decode cX8_passesOn 61 = .ok (.getfield 13, 3) := by decide +kernel
theorem dX8_passesOn_64 : decode cX8_passesOn 64 = .ok (.iconst 0, 1) := by decide +kernel
theorem dX8_passesOn_65 : decode cX8_passesOn 65 = .ok (.iaload, 1) := by decide +kernel
theorem dX8_passesOn_66 : decode cX8_passesOn 66 = .ok (.if_icmp .ge 10, 3) := by decide +kernel
theorem dX8_passesOn_69 : decode cX8_passesOn 69 = .ok (.aload_n 0, 1) := by decide +kernel
theorem dX8_passesOn_70 : decode cX8_passesOn 70 = .ok (.getfield 39, 3) := by decide +kernel
theorem dX8_passesOn_73 : decode cX8_passesOn 73 = .ok (.iload_n 2, 1) := by decide +kernel
theorem dX8_passesOn_74 : decode cX8_passesOn 74 = .ok (.iconst 1, 1) := by decide +kernel
theorem dX8_passesOn_75 : decode cX8_passesOn 75 = .ok (.bastore, 1) := by decide +kernel
theorem dX8_passesOn_76 : decode cX8_passesOn 76 = .ok (.iinc 1 1, 3) := by decide +kernel
theorem dX8_passesOn_79 : decode cX8_passesOn 79 = .ok (.goto (-77), 3) := by decide +kernel
theorem dX8_passesOn_82 : decode cX8_passesOn 82 = .ok (.return_, 1) := by decide +kernel
set_option maxRecDepth 20000 in
theorem ggX8_notesStep_X8_of : GoodIn wsX8_notesStep wsX8_of := goodIn_r _ [7, 1, 12, 13, 14, 15, 16, 17, 18, 19, 20, 21, 22, 23, 24, 25, 26, 27, 28, 29, 30, 31, 32, 33, 34, 35] (by decide +kernel) (by decide +kernel)
set_option maxRecDepth 20000 in
theorem gX8_notesStep_X8_of : GoodIn wsX8_notesStep (wsV RX8 106 RX8 yX8_of wsX8_of) := goodIn_app (goodIn_of _ (by decide +kernel)) ggX8_notesStep_X8_of
set_option maxRecDepth 20000 in
theorem ggX8_notesStep_X8_puts : GoodIn wsX8_notesStep wsX8_puts := goodIn_r _ [11, 1, 12, 13, 14, 15, 16, 17, 18, 19, 20, 21, 22, 23, 24, 25, 26, 27, 28, 29, 30, 31, 32, 33, 34, 35] (by decide +kernel) (by decide +kernel)
set_option maxRecDepth 20000 in
theorem gX8_notesStep_X8_puts : GoodIn wsX8_notesStep (wsV RX8 115 RX8 yX8_puts wsX8_puts) := goodIn_app (goodIn_of _ (by decide +kernel)) ggX8_notesStep_X8_puts
theorem dX8_notesStep_0 : decode cX8_notesStep 0 = .ok (.aload_n 0, 1) := by decide +kernel
theorem dX8_notesStep_1 : decode cX8_notesStep 1 = .ok (.getfield 13, 3) := by decide +kernel
theorem dX8_notesStep_4 : decode cX8_notesStep 4 = .ok (.iconst 3, 1) := by decide +kernel
theorem dX8_notesStep_5 : decode cX8_notesStep 5 = .ok (.dup2, 1) := by decide +kernel
theorem dX8_notesStep_6 : decode cX8_notesStep 6 = .ok (.iaload, 1) := by decide +kernel
theorem dX8_notesStep_7 : decode cX8_notesStep 7 = .ok (.iconst 1, 1) := by decide +kernel
theorem dX8_notesStep_8 : decode cX8_notesStep 8 = .ok (.iadd, 1) := by decide +kernel
theorem dX8_notesStep_9 : decode cX8_notesStep 9 = .ok (.iastore, 1) := by decide +kernel
theorem dX8_notesStep_10 : decode cX8_notesStep 10 = .ok (.aload_n 0, 1) := by decide +kernel
theorem dX8_notesStep_11 : decode cX8_notesStep 11 = .ok (.getfield 13, 3) := by decide +kernel
theorem dX8_notesStep_14 : decode cX8_notesStep 14 = .ok (.iconst 4, 1) := by decide +kernel
theorem dX8_notesStep_15 : decode cX8_notesStep 15 = .ok (.dup2, 1) := by decide +kernel
theorem dX8_notesStep_16 : decode cX8_notesStep 16 = .ok (.iaload, 1) := by decide +kernel
theorem dX8_notesStep_17 : decode cX8_notesStep 17 = .ok (.aload_n 0, 1) := by decide +kernel
theorem dX8_notesStep_18 : decode cX8_notesStep 18 = .ok (.iload_n 1, 1) := by decide +kernel
theorem dX8_notesStep_19 : decode cX8_notesStep 19 = .ok (.bipush 11, 2) := by decide +kernel
theorem dX8_notesStep_21 : decode cX8_notesStep 21 = .ok (.invokevirtual 106, 3) := by decide +kernel
theorem dX8_notesStep_24 : decode cX8_notesStep 24 = .ok (.ifCond .le 23, 3) := by decide +kernel
theorem dX8_notesStep_27 : decode cX8_notesStep 27 = .ok (.aload_n 0, 1) := by decide +kernel
theorem dX8_notesStep_28 : decode cX8_notesStep 28 = .ok (.iload_n 1, 1) := by decide +kernel
theorem dX8_notesStep_29 : decode cX8_notesStep 29 = .ok (.bipush 11, 2) := by decide +kernel
theorem dX8_notesStep_31 : decode cX8_notesStep 31 = .ok (.invokevirtual 106, 3) := by decide +kernel
theorem dX8_notesStep_34 : decode cX8_notesStep 34 = .ok (.aload_n 0, 1) := by decide +kernel
theorem dX8_notesStep_35 : decode cX8_notesStep 35 = .ok (.getfield 32, 3) := by decide +kernel
theorem dX8_notesStep_38 : decode cX8_notesStep 38 = .ok (.iload_n 1, 1) := by decide +kernel
theorem dX8_notesStep_39 : decode cX8_notesStep 39 = .ok (.iaload, 1) := by decide +kernel
theorem dX8_notesStep_40 : decode cX8_notesStep 40 = .ok (.if_icmp .eq 7, 3) := by decide +kernel
theorem dX8_notesStep_43 : decode cX8_notesStep 43 = .ok (.iconst 1, 1) := by decide +kernel
theorem dX8_notesStep_44 : decode cX8_notesStep 44 = .ok (.goto 4, 3) := by decide +kernel
theorem dX8_notesStep_47 : decode cX8_notesStep 47 = .ok (.iconst 0, 1) := by decide +kernel
theorem dX8_notesStep_48 : decode cX8_notesStep 48 = .ok (.iadd, 1) := by decide +kernel
theorem dX8_notesStep_49 : decode cX8_notesStep 49 = .ok (.iastore, 1) := by decide +kernel
theorem dX8_notesStep_50 : decode cX8_notesStep 50 = .ok (.aload_n 0, 1) := by decide +kernel
theorem dX8_notesStep_51 : decode cX8_notesStep 51 = .ok (.iload_n 1, 1) := by decide +kernel
theorem dX8_notesStep_52 : decode cX8_notesStep 52 = .ok (.bipush 11, 2) := by decide +kernel
theorem dX8_notesStep_54 : decode cX8_notesStep 54 = .ok (.aload_n 0, 1) := by decide +kernel
theorem dX8_notesStep_55 : decode cX8_notesStep 55 = .ok (.getfield 32, 3) := by decide +kernel
theorem dX8_notesStep_58 : decode cX8_notesStep 58 = .ok (.iload_n 1, 1) := by decide +kernel
theorem dX8_notesStep_59 : decode cX8_notesStep 59 = .ok (.iaload, 1) := by decide +kernel
theorem dX8_notesStep_60 : decode cX8_notesStep 60 = .ok (.invokevirtual 115, 3) := by decide +kernel
theorem dX8_notesStep_63 : decode cX8_notesStep 63 = .ok (.aload_n 0, 1) := by decide +kernel
theorem dX8_notesStep_64 : decode cX8_notesStep 64 = .ok (.getfield 13, 3) := by decide +kernel
theorem dX8_notesStep_67 : decode cX8_notesStep 67 = .ok (.iconst 5, 1) := by decide +kernel
theorem dX8_notesStep_68 : decode cX8_notesStep 68 = .ok (.iaload, 1) := by decide +kernel
theorem dX8_notesStep_69 : decode cX8_notesStep 69 = .ok (.bipush 20, 2) := by decide +kernel
theorem dX8_notesStep_71 : decode cX8_notesStep 71 = .ok (.if_icmp .ne 42, 3) := by decide +kernel
theorem dX8_notesStep_74 : decode cX8_notesStep 74 = .ok (.bipush 54, 2) := by decide +kernel
theorem dX8_notesStep_76 : decode cX8_notesStep 76 = .ok (.istore_n 2, 1) := by decide +kernel
theorem dX8_notesStep_77 : decode cX8_notesStep 77 = .ok (.iload_n 2, 1) := by decide +kernel
theorem dX8_notesStep_78 : decode cX8_notesStep 78 = .ok (.bipush 111, 2) := by decide +kernel
theorem dX8_notesStep_80 : decode cX8_notesStep 80 = .ok (.if_icmp .ge 23, 3) := by decide +kernel
theorem dX8_notesStep_83 : decode cX8_notesStep 83 = .ok (.aload_n 0, 1) := by decide +kernel
theorem dX8_notesStep_84 : decode cX8_notesStep 84 = .ok (.getfield 13, 3) := by decide +kernel
theorem dX8_notesStep_87 : decode cX8_notesStep 87 = .ok (.iload_n 2, 1) := by decide +kernel
theorem dX8_notesStep_88 : decode cX8_notesStep 88 = .ok (.aload_n 0, 1) := by decide +kernel
theorem dX8_notesStep_89 : decode cX8_notesStep 89 = .ok (.getfield 13, 3) := by decide +kernel
theorem dX8_notesStep_92 : decode cX8_notesStep 92 = .ok (.iload_n 2, 1) := by decide +kernel
theorem dX8_notesStep_93 : decode cX8_notesStep 93 = .ok (.iconst 3, 1) := by decide +kernel
theorem dX8_notesStep_94 : decode cX8_notesStep 94 = .ok (.iadd, 1) := by decide +kernel
theorem dX8_notesStep_95 : decode cX8_notesStep 95 = .ok (.iaload, 1) := by decide +kernel
theorem dX8_notesStep_96 : decode cX8_notesStep 96 = .ok (.iastore, 1) := by decide +kernel
theorem dX8_notesStep_97 : decode cX8_notesStep 97 = .ok (.iinc 2 1, 3) := by decide +kernel
theorem dX8_notesStep_100 : decode cX8_notesStep 100 = .ok (.goto (-23), 3) := by decide +kernel
theorem dX8_notesStep_103 : decode cX8_notesStep 103 = .ok (.aload_n 0, 1) := by decide +kernel
theorem dX8_notesStep_104 : decode cX8_notesStep 104 = .ok (.getfield 13, 3) := by decide +kernel
theorem dX8_notesStep_107 : decode cX8_notesStep 107 = .ok (.iconst 5, 1) := by decide +kernel
theorem dX8_notesStep_108 : decode cX8_notesStep 108 = .ok (.dup2, 1) := by decide +kernel
theorem dX8_notesStep_109 : decode cX8_notesStep 109 = .ok (.iaload, 1) := by decide +kernel
theorem dX8_notesStep_110 : decode cX8_notesStep 110 = .ok (.iconst 1, 1) := by decide +kernel
theorem dX8_notesStep_111 : decode cX8_notesStep 111 = .ok (.isub, 1) := by decide +kernel
theorem dX8_notesStep_112 : decode cX8_notesStep 112 = .ok (.iastore, 1) := by decide +kernel
theorem dX8_notesStep_113 : decode cX8_notesStep 113 = .ok (.bipush 54, 2) := by decide +kernel
theorem dX8_notesStep_115 : decode cX8_notesStep 115 = .ok (.iconst 3, 1) := by decide +kernel
theorem dX8_notesStep_116 : decode cX8_notesStep 116 = .ok (.aload_n 0, 1) := by decide +kernel
theorem dX8_notesStep_117 : decode cX8_notesStep 117 = .ok (.getfield 13, 3) := by decide +kernel
theorem dX8_notesStep_120 : decode cX8_notesStep 120 = .ok (.iconst 5, 1) := by decide +kernel
theorem dX8_notesStep_121 : decode cX8_notesStep 121 = .ok (.iaload, 1) := by decide +kernel
theorem dX8_notesStep_122 : decode cX8_notesStep 122 = .ok (.imul, 1) := by decide +kernel
theorem dX8_notesStep_123 : decode cX8_notesStep 123 = .ok (.iadd, 1) := by decide +kernel
theorem dX8_notesStep_124 : decode cX8_notesStep 124 = .ok (.istore_n 2, 1) := by decide +kernel
theorem dX8_notesStep_125 : decode cX8_notesStep 125 = .ok (.aload_n 0, 1) := by decide +kernel
theorem dX8_notesStep_126 : decode cX8_notesStep 126 = .ok (.getfield 13, 3) := by decide +kernel
theorem dX8_notesStep_129 : decode cX8_notesStep 129 = .ok (.iload_n 2, 1) := by decide +kernel
theorem dX8_notesStep_130 : decode cX8_notesStep 130 = .ok (.aload_n 0, 1) := by decide +kernel
theorem dX8_notesStep_131 : decode cX8_notesStep 131 = .ok (.getfield 13, 3) := by decide +kernel
theorem dX8_notesStep_134 : decode cX8_notesStep 134 = .ok (.iconst 2, 1) := by decide +kernel
theorem dX8_notesStep_135 : decode cX8_notesStep 135 = .ok (.iaload, 1) := by decide +kernel
theorem dX8_notesStep_136 : decode cX8_notesStep 136 = .ok (.iastore, 1) := by decide +kernel
theorem dX8_notesStep_137 : decode cX8_notesStep 137 = .ok (.aload_n 0, 1) := by decide +kernel
theorem dX8_notesStep_138 : decode cX8_notesStep 138 = .ok (.getfield 13, 3) := by decide +kernel
theorem dX8_notesStep_141 : decode cX8_notesStep 141 = .ok (.iload_n 2, 1) := by decide +kernel
theorem dX8_notesStep_142 : decode cX8_notesStep 142 = .ok (.iconst 1, 1) := by decide +kernel
theorem dX8_notesStep_143 : decode cX8_notesStep 143 = .ok (.iadd, 1) := by decide +kernel
theorem dX8_notesStep_144 : decode cX8_notesStep 144 = .ok (.iload_n 1, 1) := by decide +kernel
theorem dX8_notesStep_145 : decode cX8_notesStep 145 = .ok (.iastore, 1) := by decide +kernel
theorem dX8_notesStep_146 : decode cX8_notesStep 146 = .ok (.aload_n 0, 1) := by decide +kernel
theorem dX8_notesStep_147 : decode cX8_notesStep 147 = .ok (.getfield 13, 3) := by decide +kernel
theorem dX8_notesStep_150 : decode cX8_notesStep 150 = .ok (.iload_n 2, 1) := by decide +kernel
theorem dX8_notesStep_151 : decode cX8_notesStep 151 = .ok (.iconst 2, 1) := by decide +kernel
theorem dX8_notesStep_152 : decode cX8_notesStep 152 = .ok (.iadd, 1) := by decide +kernel
theorem dX8_notesStep_153 : decode cX8_notesStep 153 = .ok (.aload_n 0, 1) := by decide +kernel
theorem dX8_notesStep_154 : decode cX8_notesStep 154 = .ok (.getfield 32, 3) := by decide +kernel
theorem dX8_notesStep_157 : decode cX8_notesStep 157 = .ok (.iload_n 1, 1) := by decide +kernel
theorem dX8_notesStep_158 : decode cX8_notesStep 158 = .ok (.iaload, 1) := by decide +kernel
theorem dX8_notesStep_159 : decode cX8_notesStep 159 = .ok (.iastore, 1) := by decide +kernel
theorem dX8_notesStep_160 : decode cX8_notesStep 160 = .ok (.aload_n 0, 1) := by decide +kernel
theorem dX8_notesStep_161 : decode cX8_notesStep 161 = .ok (.getfield 13, 3) := by decide +kernel
theorem dX8_notesStep_164 : decode cX8_notesStep 164 = .ok (.iconst 5, 1) := by decide +kernel
theorem dX8_notesStep_165 : decode cX8_notesStep 165 = .ok (.dup2, 1) := by decide +kernel
theorem dX8_notesStep_166 : decode cX8_notesStep 166 = .ok (.iaload, 1) := by decide +kernel
theorem dX8_notesStep_167 : decode cX8_notesStep 167 = .ok (.iconst 1, 1) := by decide +kernel
theorem dX8_notesStep_168 : decode cX8_notesStep 168 = .ok (.iadd, 1) := by decide +kernel
theorem dX8_notesStep_169 : decode cX8_notesStep 169 = .ok (.iastore, 1) := by decide +kernel
theorem dX8_notesStep_170 : decode cX8_notesStep 170 = .ok (.return_, 1) := by decide +kernel
set_option maxRecDepth 20000 in
theorem ggX8_ticks_X8_lays : GoodIn wsX8_ticks wsX8_lays := goodIn_r _ [9, 1, 10, 11, 12, 4, 3, 13, 14, 15, 8, 16, 17, 18, 19, 20, 21, 22, 23, 24, 25, 26, 43, 44, 45, 46, 47, 48, 49, 50, 51, 52, 53, 54, 55, 56, 57, 58, 59, 60, 61, 62, 63, 64, 65, 66] (by decide +kernel) (by decide +kernel)
set_option maxRecDepth 20000 in
theorem gX8_ticks_X8_lays : GoodIn wsX8_ticks (wsV RX8 119 RX8 yX8_lays wsX8_lays) := goodIn_app (goodIn_of _ (by decide +kernel)) ggX8_ticks_X8_lays
set_option maxRecDepth 20000 in
theorem ggX8_ticks_X8_counts : GoodIn wsX8_ticks wsX8_counts := goodIn_r _ [30, 1, 4, 2, 13, 14, 15, 8, 16, 31, 32, 33, 34, 43, 44, 45, 46, 47, 48, 49, 50, 51, 52, 53, 54, 55, 56, 57, 58, 59, 60, 61, 62, 63, 64, 65, 66] (by decide +kernel) (by decide +kernel)
set_option maxRecDepth 20000 in
theorem gX8_ticks_X8_counts : GoodIn wsX8_ticks (wsV RX8 122 RX8 yX8_counts wsX8_counts) := goodIn_app (goodIn_of _ (by decide +kernel)) ggX8_ticks_X8_counts
set_option maxRecDepth 20000 in
theorem ggX8_ticks_X8_passesOn : GoodIn wsX8_ticks wsX8_passesOn := goodIn_r _ [38, 1, 2, 3, 4, 43, 44, 45, 46, 47, 48, 49, 50, 51, 52, 53, 54, 55, 56, 57, 58, 59, 60, 61, 62, 63, 64, 65, 66] (by decide +kernel) (by decide +kernel)
set_option maxRecDepth 20000 in
theorem gX8_ticks_X8_passesOn : GoodIn wsX8_ticks (wsV RX8 125 RX8 yX8_passesOn wsX8_passesOn) := goodIn_app (goodIn_of _ (by decide +kernel)) ggX8_ticks_X8_passesOn
set_option maxRecDepth 20000 in
theorem ggX8_ticks_X8_of : GoodIn wsX8_ticks wsX8_of := goodIn_r _ [16, 1, 43, 44, 45, 46, 47, 48, 49, 50, 51, 52, 53, 54, 55, 56, 57, 58, 59, 60, 61, 62, 63, 64, 65, 66] (by decide +kernel) (by decide +kernel)
set_option maxRecDepth 20000 in
theorem gX8_ticks_X8_of : GoodIn wsX8_ticks (wsV RX8 106 RX8 yX8_of wsX8_of) := goodIn_app (goodIn_of _ (by decide +kernel)) ggX8_ticks_X8_of
set_option maxRecDepth 20000 in
theorem ggX8_ticks_X8_way : GoodIn wsX8_ticks wsX8_way := goodIn_r _ [23] (by decide +kernel) (by decide +kernel)
set_option maxRecDepth 20000 in
theorem gX8_ticks_X8_way : GoodIn wsX8_ticks (va_wsS RX8 112 yX8_way wsX8_way) := goodIn_app (goodIn_of _ (by decide +kernel)) ggX8_ticks_X8_way
set_option maxRecDepth 20000 in
theorem ggX8_ticks_X8_puts : GoodIn wsX8_ticks wsX8_puts := goodIn_r _ [34, 1, 43, 44, 45, 46, 47, 48, 49, 50, 51, 52, 53, 54, 55, 56, 57, 58, 59, 60, 61, 62, 63, 64, 65, 66] (by decide +kernel) (by decide +kernel)
set_option maxRecDepth 20000 in
theorem gX8_ticks_X8_puts : GoodIn wsX8_ticks (wsV RX8 115 RX8 yX8_puts wsX8_puts) := goodIn_app (goodIn_of _ (by decide +kernel)) ggX8_ticks_X8_puts
set_option maxRecDepth 20000 in
theorem ggX8_ticks_X8_notesStep : GoodIn wsX8_ticks wsX8_notesStep := goodIn_r _ [42, 1, 4, 13, 14, 15, 8, 16, 31, 32, 33, 34, 43, 44, 45, 46, 47, 48, 49, 50, 51, 52, 53, 54, 55, 56, 57, 58, 59, 60, 61, 62, 63, 64, 65, 66] (by decide +kernel) (by decide +kernel)
set_option maxRecDepth 20000 in
theorem gX8_ticks_X8_notesStep : GoodIn wsX8_ticks (wsV RX8 128 RX8 yX8_notesStep wsX8_notesStep) := goodIn_app (goodIn_of _ (by decide +kernel)) ggX8_ticks_X8_notesStep
theorem dX8_ticks_0 : decode cX8_ticks 0 = .ok (.aload_n 0, 1) := by decide +kernel
theorem dX8_ticks_1 : decode cX8_ticks 1 = .ok (.invokevirtual 119, 3) := by decide +kernel
theorem dX8_ticks_4 : decode cX8_ticks 4 = .ok (.aload_n 0, 1) := by decide +kernel
theorem dX8_ticks_5 : decode cX8_ticks 5 = .ok (.invokevirtual 122, 3) := by decide +kernel
theorem dX8_ticks_8 : decode cX8_ticks 8 = .ok (.aload_n 0, 1) := by decide +kernel
theorem dX8_ticks_9 : decode cX8_ticks 9 = .ok (.invokevirtual 125, 3) := by decide +kernel
theorem dX8_ticks_12 : decode cX8_ticks 12 = .ok (.iconst 0, 1) := by decide +kernel
theorem dX8_ticks_13 : decode cX8_ticks 13 = .ok (.istore_n 1, 1) := by decide +kernel
theorem dX8_ticks_14 : decode cX8_ticks 14 = .ok (.iload_n 1, 1) := by decide +kernel
theorem dX8_ticks_15 : decode cX8_ticks 15 = .ok (.aload_n 0, 1) := by decide +kernel
theorem dX8_ticks_16 : decode cX8_ticks 16 = .ok (.getfield 13, 3) := by decide +kernel
theorem dX8_ticks_19 : decode cX8_ticks 19 = .ok (.iconst 0, 1) := by decide +kernel
theorem dX8_ticks_20 : decode cX8_ticks 20 = .ok (.iaload, 1) := by decide +kernel
theorem dX8_ticks_21 : decode cX8_ticks 21 = .ok (.if_icmp .ge 72, 3) := by decide +kernel
theorem dX8_ticks_24 : decode cX8_ticks 24 = .ok (.aload_n 0, 1) := by decide +kernel
theorem dX8_ticks_25 : decode cX8_ticks 25 = .ok (.getfield 39, 3) := by decide +kernel
theorem dX8_ticks_28 : decode cX8_ticks 28 = .ok (.iload_n 1, 1) := by decide +kernel
theorem dX8_ticks_29 : decode cX8_ticks 29 = .ok (.baload, 1) := by decide +kernel
theorem dX8_ticks_30 : decode cX8_ticks 30 = .ok (.ifCond .eq 57, 3) := by decide +kernel
theorem dX8_ticks_33 : decode cX8_ticks 33 = .ok (.aload_n 0, 1) := by decide +kernel
theorem dX8_ticks_34 : decode cX8_ticks 34 = .ok (.getfield 35, 3) := by decide +kernel
theorem dX8_ticks_37 : decode cX8_ticks 37 = .ok (.iload_n 1, 1) := by decide +kernel
theorem dX8_ticks_38 : decode cX8_ticks 38 = .ok (.baload, 1) := by decide +kernel
theorem dX8_ticks_39 : decode cX8_ticks 39 = .ok (.ifCond .eq 32, 3) := by decide +kernel
theorem dX8_ticks_42 : decode cX8_ticks 42 = .ok (.aload_n 0, 1) := by decide +kernel
theorem dX8_ticks_43 : decode cX8_ticks 43 = .ok (.iload_n 1, 1) := by decide +kernel
theorem dX8_ticks_44 : decode cX8_ticks 44 = .ok (.bipush 7, 2) := by decide +kernel
theorem dX8_ticks_46 : decode cX8_ticks 46 = .ok (.aload_n 0, 1) := by decide +kernel
theorem dX8_ticks_47 : decode cX8_ticks 47 = .ok (.iload_n 1, 1) := by decide +kernel
theorem dX8_ticks_48 : decode cX8_ticks 48 = .ok (.bipush 7, 2) := by decide +kernel
theorem dX8_ticks_50 : decode cX8_ticks 50 = .ok (.invokevirtual 106, 3) := by decide +kernel
theorem dX8_ticks_53 : decode cX8_ticks 53 = .ok (.aload_n 0, 1) := by decide +kernel
theorem dX8_ticks_54 : decode cX8_ticks 54 = .ok (.getfield 32, 3) := by decide +kernel
theorem dX8_ticks_57 : decode cX8_ticks 57 = .ok (.iload_n 1, 1) := by decide +kernel
theorem dX8_ticks_58 : decode cX8_ticks 58 = .ok (.iaload, 1) := by decide +kernel
theorem dX8_ticks_59 : decode cX8_ticks 59 = .ok (.invokestatic 112, 3) := by decide +kernel
theorem dX8_ticks_62 : decode cX8_ticks 62 = .ok (.iadd, 1) := by decide +kernel
theorem dX8_ticks_63 : decode cX8_ticks 63 = .ok (.invokevirtual 115, 3) := by decide +kernel
theorem dX8_ticks_66 : decode cX8_ticks 66 = .ok (.aload_n 0, 1) := by decide +kernel
theorem dX8_ticks_67 : decode cX8_ticks 67 = .ok (.iload_n 1, 1) := by decide +kernel
theorem dX8_ticks_68 : decode cX8_ticks 68 = .ok (.invokevirtual 128, 3) := by decide +kernel
theorem dX8_ticks_71 : decode cX8_ticks 71 = .ok (.aload_n 0, 1) := by decide +kernel
theorem dX8_ticks_72 : decode cX8_ticks 72 = .ok (.iload_n 1, 1) := by decide +kernel
theorem dX8_ticks_73 : decode cX8_ticks 73 = .ok (.bipush 9, 2) := by decide +kernel
theorem dX8_ticks_75 : decode cX8_ticks 75 = .ok (.iconst 0, 1) := by decide +kernel
theorem dX8_ticks_76 : decode cX8_ticks 76 = .ok (.invokevirtual 115, 3) := by decide +kernel
theorem dX8_ticks_79 : decode cX8_ticks 79 = .ok (.aload_n 0, 1) := by decide +kernel
theorem dX8_ticks_80 : decode cX8_ticks 80 = .ok (.iload_n 1, 1) := by decide +kernel
theorem dX8_ticks_81 : decode cX8_ticks 81 = .ok (.bipush 10, 2) := by decide +kernel
theorem dX8_ticks_83 : decode cX8_ticks 83 = .ok (.iconst 0, 1) := by decide +kernel
theorem dX8_ticks_84 : decode cX8_ticks 84 = .ok (.invokevirtual 115, 3) := by decide +kernel
theorem dX8_ticks_87 : decode cX8_ticks 87 = .ok (.iinc 1 1, 3) := by decide +kernel
theorem dX8_ticks_90 : decode cX8_ticks 90 = .ok (.goto (-76), 3) := by decide +kernel
theorem dX8_ticks_93 : decode cX8_ticks 93 = .ok (.aload_n 0, 1) := by decide +kernel
theorem dX8_ticks_94 : decode cX8_ticks 94 = .ok (.getfield 13, 3) := by decide +kernel
theorem dX8_ticks_97 : decode cX8_ticks 97 = .ok (.iconst 2, 1) := by decide +kernel
theorem dX8_ticks_98 : decode cX8_ticks 98 = .ok (.dup2, 1) := by decide +kernel
theorem dX8_ticks_99 : decode cX8_ticks 99 = .ok (.iaload, 1) := by decide +kernel
theorem dX8_ticks_100 : decode cX8_ticks 100 = .ok (.iconst 1, 1) := by decide +kernel
theorem dX8_ticks_101 : decode cX8_ticks 101 = .ok (.iadd, 1) := by decide +kernel
theorem dX8_ticks_102 : decode cX8_ticks 102 = .ok (.iastore, 1) := by decide +kernel
theorem dX8_ticks_103 : decode cX8_ticks 103 = .ok (.return_, 1) := by decide +kernel
theorem dX8_notes_0 : decode cX8_notes 0 = .ok (.aload_n 0, 1) := by decide +kernel
theorem dX8_notes_1 : decode cX8_notes 1 = .ok (.getfield 103, 3) := by decide +kernel
theorem dX8_notes_4 : decode cX8_notes 4 = .ok (.bipush 6, 2) := by decide +kernel
