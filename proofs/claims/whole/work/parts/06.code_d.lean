theorem dX8_notes_6 : decode cX8_notes 6 = .ok (.if_icmp .ne 43, 3) := by decide +kernel
theorem dX8_notes_9 : decode cX8_notes 9 = .ok (.iconst 0, 1) := by decide +kernel
theorem dX8_notes_10 : decode cX8_notes 10 = .ok (.istore_n 1, 1) := by decide +kernel
theorem dX8_notes_11 : decode cX8_notes 11 = .ok (.iload_n 1, 1) := by decide +kernel
theorem dX8_notes_12 : decode cX8_notes 12 = .ok (.sipush 570, 3) := by decide +kernel
theorem dX8_notes_15 : decode cX8_notes 15 = .ok (.if_icmp .ge 24, 3) := by decide +kernel
theorem dX8_notes_18 : decode cX8_notes 18 = .ok (.aload_n 0, 1) := by decide +kernel
theorem dX8_notes_19 : decode cX8_notes 19 = .ok (.getfield 20, 3) := by decide +kernel
theorem dX8_notes_22 : decode cX8_notes 22 = .ok (.iload_n 1, 1) := by decide +kernel
theorem dX8_notes_23 : decode cX8_notes 23 = .ok (.aload_n 0, 1) := by decide +kernel
theorem dX8_notes_24 : decode cX8_notes 24 = .ok (.getfield 20, 3) := by decide +kernel
theorem dX8_notes_27 : decode cX8_notes 27 = .ok (.iload_n 1, 1) := by decide +kernel
theorem dX8_notes_28 : decode cX8_notes 28 = .ok (.bipush 114, 2) := by decide +kernel
theorem dX8_notes_30 : decode cX8_notes 30 = .ok (.iadd, 1) := by decide +kernel
theorem dX8_notes_31 : decode cX8_notes 31 = .ok (.iaload, 1) := by decide +kernel
theorem dX8_notes_32 : decode cX8_notes 32 = .ok (.iastore, 1) := by decide +kernel
theorem dX8_notes_33 : decode cX8_notes 33 = .ok (.iinc 1 1, 3) := by decide +kernel
theorem dX8_notes_36 : decode cX8_notes 36 = .ok (.goto (-25), 3) := by decide +kernel
theorem dX8_notes_39 : decode cX8_notes 39 = .ok (.aload_n 0, 1) := by decide +kernel
theorem dX8_notes_40 : decode cX8_notes 40 = .ok (.dup, 1) := by decide +kernel
theorem dX8_notes_41 : decode cX8_notes 41 = .ok (.getfield 103, 3) := by decide +kernel
theorem dX8_notes_44 : decode cX8_notes 44 = .ok (.iconst 1, 1) := by decide +kernel
theorem dX8_notes_45 : decode cX8_notes 45 = .ok (.isub, 1) := by decide +kernel
theorem dX8_notes_46 : decode cX8_notes 46 = .ok (.putfield 103, 3) := by decide +kernel
theorem dX8_notes_49 : decode cX8_notes 49 = .ok (.iconst 0, 1) := by decide +kernel
theorem dX8_notes_50 : decode cX8_notes 50 = .ok (.istore_n 1, 1) := by decide +kernel
theorem dX8_notes_51 : decode cX8_notes 51 = .ok (.iload_n 1, 1) := by decide +kernel
theorem dX8_notes_52 : decode cX8_notes 52 = .ok (.bipush 114, 2) := by decide +kernel
theorem dX8_notes_54 : decode cX8_notes 54 = .ok (.if_icmp .ge 29, 3) := by decide +kernel
theorem dX8_notes_57 : decode cX8_notes 57 = .ok (.aload_n 0, 1) := by decide +kernel
theorem dX8_notes_58 : decode cX8_notes 58 = .ok (.getfield 20, 3) := by decide +kernel
theorem dX8_notes_61 : decode cX8_notes 61 = .ok (.bipush 114, 2) := by decide +kernel
theorem dX8_notes_63 : decode cX8_notes 63 = .ok (.aload_n 0, 1) := by decide +kernel
theorem dX8_notes_64 : decode cX8_notes 64 = .ok (.getfield 103, 3) := by decide +kernel
theorem dX8_notes_67 : decode cX8_notes 67 = .ok (.imul, 1) := by decide +kernel
theorem dX8_notes_68 : decode cX8_notes 68 = .ok (.iload_n 1, 1) := by decide +kernel
theorem dX8_notes_69 : decode cX8_notes 69 = .ok (.iadd, 1) := by decide +kernel
theorem dX8_notes_70 : decode cX8_notes 70 = .ok (.aload_n 0, 1) := by decide +kernel
theorem dX8_notes_71 : decode cX8_notes 71 = .ok (.getfield 13, 3) := by decide +kernel
theorem dX8_notes_74 : decode cX8_notes 74 = .ok (.iload_n 1, 1) := by decide +kernel
theorem dX8_notes_75 : decode cX8_notes 75 = .ok (.iaload, 1) := by decide +kernel
theorem dX8_notes_76 : decode cX8_notes 76 = .ok (.iastore, 1) := by decide +kernel
theorem dX8_notes_77 : decode cX8_notes 77 = .ok (.iinc 1 1, 3) := by decide +kernel
theorem dX8_notes_80 : decode cX8_notes 80 = .ok (.goto (-29), 3) := by decide +kernel
theorem dX8_notes_83 : decode cX8_notes 83 = .ok (.aload_n 0, 1) := by decide +kernel
theorem dX8_notes_84 : decode cX8_notes 84 = .ok (.dup, 1) := by decide +kernel
theorem dX8_notes_85 : decode cX8_notes 85 = .ok (.getfield 103, 3) := by decide +kernel
theorem dX8_notes_88 : decode cX8_notes 88 = .ok (.iconst 1, 1) := by decide +kernel
theorem dX8_notes_89 : decode cX8_notes 89 = .ok (.iadd, 1) := by decide +kernel
theorem dX8_notes_90 : decode cX8_notes 90 = .ok (.putfield 103, 3) := by decide +kernel
theorem dX8_notes_93 : decode cX8_notes 93 = .ok (.return_, 1) := by decide +kernel
set_option maxRecDepth 20000 in
theorem ggX8_source_X8_in : GoodIn wsX8_source wsX8_in := goodIn_r _ [6] (by decide +kernel) (by decide +kernel)
set_option maxRecDepth 20000 in
theorem gX8_source_X8_in : GoodIn wsX8_source (va_wsS RX8 63 yX8_in wsX8_in) := goodIn_app (goodIn_of _ (by decide +kernel)) ggX8_source_X8_in
set_option maxRecDepth 20000 in
theorem ggX8_source_X8_notes : GoodIn wsX8_source wsX8_notes := goodIn_r _ [10, 11, 12, 2, 13, 14, 15, 16, 17, 18, 19, 20, 21, 22, 23, 24, 25, 26, 27, 28, 29, 30, 31, 32, 33, 34, 35, 36] (by decide +kernel) (by decide +kernel)
set_option maxRecDepth 20000 in
theorem gX8_source_X8_notes : GoodIn wsX8_source (wsV RX8 131 RX8 yX8_notes wsX8_notes) := goodIn_app (goodIn_of _ (by decide +kernel)) ggX8_source_X8_notes
theorem dX8_source_0 : decode cX8_source 0 = .ok (.aload_n 0, 1) := by decide +kernel
theorem dX8_source_1 : decode cX8_source 1 = .ok (.iconst 0, 1) := by decide +kernel
theorem dX8_source_2 : decode cX8_source 2 = .ok (.putfield 59, 3) := by decide +kernel
theorem dX8_source_5 : decode cX8_source 5 = .ok (.iload_n 1, 1) := by decide +kernel
theorem dX8_source_6 : decode cX8_source 6 = .ok (.sipush 800, 3) := by decide +kernel
theorem dX8_source_9 : decode cX8_source 9 = .ok (.sipush 1200, 3) := by decide +kernel
theorem dX8_source_12 : decode cX8_source 12 = .ok (.invokestatic 63, 3) := by decide +kernel
theorem dX8_source_15 : decode cX8_source 15 = .ok (.ifCond .ne 5, 3) := by decide +kernel
theorem dX8_source_18 : decode cX8_source 18 = .ok (.iconst (-1), 1) := by decide +kernel
theorem dX8_source_19 : decode cX8_source 19 = .ok (.ireturn, 1) := by decide +kernel
theorem dX8_source_20 : decode cX8_source 20 = .ok (.aload_n 0, 1) := by decide +kernel
theorem dX8_source_21 : decode cX8_source 21 = .ok (.getfield 13, 3) := by decide +kernel
theorem dX8_source_24 : decode cX8_source 24 = .ok (.iconst 1, 1) := by decide +kernel
theorem dX8_source_25 : decode cX8_source 25 = .ok (.iaload, 1) := by decide +kernel
theorem dX8_source_26 : decode cX8_source 26 = .ok (.istore_n 2, 1) := by decide +kernel
theorem dX8_source_27 : decode cX8_source 27 = .ok (.iload_n 2, 1) := by decide +kernel
theorem dX8_source_28 : decode cX8_source 28 = .ok (.iload_n 1, 1) := by decide +kernel
theorem dX8_source_29 : decode cX8_source 29 = .ok (.if_icmp .ne 6, 3) := by decide +kernel
theorem dX8_source_32 : decode cX8_source 32 = .ok (.bipush (-2), 2) := by decide +kernel
theorem dX8_source_34 : decode cX8_source 34 = .ok (.ireturn, 1) := by decide +kernel
theorem dX8_source_35 : decode cX8_source 35 = .ok (.aload_n 0, 1) := by decide +kernel
theorem dX8_source_36 : decode cX8_source 36 = .ok (.invokevirtual 131, 3) := by decide +kernel
theorem dX8_source_39 : decode cX8_source 39 = .ok (.aload_n 0, 1) := by decide +kernel
theorem dX8_source_40 : decode cX8_source 40 = .ok (.getfield 13, 3) := by decide +kernel
theorem dX8_source_43 : decode cX8_source 43 = .ok (.iconst 1, 1) := by decide +kernel
theorem dX8_source_44 : decode cX8_source 44 = .ok (.iload_n 1, 1) := by decide +kernel
theorem dX8_source_45 : decode cX8_source 45 = .ok (.iastore, 1) := by decide +kernel
theorem dX8_source_46 : decode cX8_source 46 = .ok (.iload_n 2, 1) := by decide +kernel
theorem dX8_source_47 : decode cX8_source 47 = .ok (.ireturn, 1) := by decide +kernel
set_option maxRecDepth 20000 in
theorem ggX8_tell_X8_isStage : GoodIn wsX8_tell wsX8_isStage := goodIn_r _ [6, 7, 8, 9, 5, 10, 25, 26, 27, 28, 29, 30, 31, 32, 33, 34, 35, 36, 37, 38, 39, 40, 41, 42, 43, 44, 45, 46, 47, 48] (by decide +kernel) (by decide +kernel)
set_option maxRecDepth 20000 in
theorem gX8_tell_X8_isStage : GoodIn wsX8_tell (wsV RX8 134 RX8 yX8_isStage wsX8_isStage) := goodIn_app (goodIn_of _ (by decide +kernel)) ggX8_tell_X8_isStage
set_option maxRecDepth 20000 in
theorem ggX8_tell_X8_in : GoodIn wsX8_tell wsX8_in := goodIn_r _ [10] (by decide +kernel) (by decide +kernel)
set_option maxRecDepth 20000 in
theorem gX8_tell_X8_in : GoodIn wsX8_tell (va_wsS RX8 63 yX8_in wsX8_in) := goodIn_app (goodIn_of _ (by decide +kernel)) ggX8_tell_X8_in
set_option maxRecDepth 20000 in
theorem ggX8_tell_X8_of : GoodIn wsX8_tell wsX8_of := goodIn_r _ [14, 7, 25, 26, 27, 28, 29, 30, 31, 32, 33, 34, 35, 36, 37, 38, 39, 40, 41, 42, 43, 44, 45, 46, 47, 48] (by decide +kernel) (by decide +kernel)
set_option maxRecDepth 20000 in
theorem gX8_tell_X8_of : GoodIn wsX8_tell (wsV RX8 106 RX8 yX8_of wsX8_of) := goodIn_app (goodIn_of _ (by decide +kernel)) ggX8_tell_X8_of
set_option maxRecDepth 20000 in
theorem ggX8_tell_X8_notes : GoodIn wsX8_tell wsX8_notes := goodIn_r _ [18, 19, 20, 7, 25, 26, 27, 28, 29, 30, 31, 32, 33, 34, 35, 36, 37, 38, 39, 40, 41, 42, 43, 44, 45, 46, 47, 48] (by decide +kernel) (by decide +kernel)
set_option maxRecDepth 20000 in
theorem gX8_tell_X8_notes : GoodIn wsX8_tell (wsV RX8 131 RX8 yX8_notes wsX8_notes) := goodIn_app (goodIn_of _ (by decide +kernel)) ggX8_tell_X8_notes
set_option maxRecDepth 20000 in
theorem ggX8_tell_X8_puts : GoodIn wsX8_tell wsX8_puts := goodIn_r _ [24, 7, 25, 26, 27, 28, 29, 30, 31, 32, 33, 34, 35, 36, 37, 38, 39, 40, 41, 42, 43, 44, 45, 46, 47, 48] (by decide +kernel) (by decide +kernel)
set_option maxRecDepth 20000 in
theorem gX8_tell_X8_puts : GoodIn wsX8_tell (wsV RX8 115 RX8 yX8_puts wsX8_puts) := goodIn_app (goodIn_of _ (by decide +kernel)) ggX8_tell_X8_puts
theorem dX8_tell_0 : decode cX8_tell 0 = .ok (.aload_n 0, 1) := by decide +kernel
theorem dX8_tell_1 : decode cX8_tell 1 = .ok (.iconst 0, 1) := by decide +kernel
theorem dX8_tell_2 : decode cX8_tell 2 = .ok (.putfield 59, 3) := by decide +kernel
theorem dX8_tell_5 : decode cX8_tell 5 = .ok (.aload_n 0, 1) := by decide +kernel
theorem dX8_tell_6 : decode cX8_tell 6 = .ok (.iload_n 1, 1) := by decide +kernel
theorem dX8_tell_7 : decode cX8_tell 7 = .ok (.invokevirtual 134, 3) := by decide +kernel
theorem dX8_tell_10 : decode cX8_tell 10 = .ok (.ifCond .eq 12, 3) := by decide +kernel
theorem dX8_tell_13 : decode cX8_tell 13 = .ok (.iload_n 2, 1) := by decide +kernel
theorem dX8_tell_14 : decode cX8_tell 14 = .ok (.iconst 0, 1) := by decide +kernel
theorem dX8_tell_15 : decode cX8_tell 15 = .ok (.iconst 2, 1) := by decide +kernel
theorem dX8_tell_16 : decode cX8_tell 16 = .ok (.invokestatic 63, 3) := by decide +kernel
theorem dX8_tell_19 : decode cX8_tell 19 = .ok (.ifCond .ne 5, 3) := by decide +kernel
theorem dX8_tell_22 : decode cX8_tell 22 = .ok (.iconst (-1), 1) := by decide +kernel
theorem dX8_tell_23 : decode cX8_tell 23 = .ok (.ireturn, 1) := by decide +kernel
theorem dX8_tell_24 : decode cX8_tell 24 = .ok (.iload_n 2, 1) := by decide +kernel
theorem dX8_tell_25 : decode cX8_tell 25 = .ok (.iconst 2, 1) := by decide +kernel
theorem dX8_tell_26 : decode cX8_tell 26 = .ok (.if_icmp .ge 9, 3) := by decide +kernel
theorem dX8_tell_29 : decode cX8_tell 29 = .ok (.sipush 1000, 3) := by decide +kernel
theorem dX8_tell_32 : decode cX8_tell 32 = .ok (.goto 4, 3) := by decide +kernel
theorem dX8_tell_35 : decode cX8_tell 35 = .ok (.iconst 0, 1) := by decide +kernel
theorem dX8_tell_36 : decode cX8_tell 36 = .ok (.istore 4, 2) := by decide +kernel
theorem dX8_tell_38 : decode cX8_tell 38 = .ok (.iload_n 2, 1) := by decide +kernel
theorem dX8_tell_39 : decode cX8_tell 39 = .ok (.ifCond .ne 7, 3) := by decide +kernel
theorem dX8_tell_42 : decode cX8_tell 42 = .ok (.iconst 5, 1) := by decide +kernel
theorem dX8_tell_43 : decode cX8_tell 43 = .ok (.goto 14, 3) := by decide +kernel
theorem dX8_tell_46 : decode cX8_tell 46 = .ok (.iload_n 2, 1) := by decide +kernel
theorem dX8_tell_47 : decode cX8_tell 47 = .ok (.iconst 1, 1) := by decide +kernel
theorem dX8_tell_48 : decode cX8_tell 48 = .ok (.if_icmp .ne 8, 3) := by decide +kernel
theorem dX8_tell_51 : decode cX8_tell 51 = .ok (.bipush 7, 2) := by decide +kernel
theorem dX8_tell_53 : decode cX8_tell 53 = .ok (.goto 4, 3) := by decide +kernel
theorem dX8_tell_56 : decode cX8_tell 56 = .ok (.iconst 3, 1) := by decide +kernel
theorem dX8_tell_57 : decode cX8_tell 57 = .ok (.istore 5, 2) := by decide +kernel
theorem dX8_tell_59 : decode cX8_tell 59 = .ok (.iload_n 2, 1) := by decide +kernel
theorem dX8_tell_60 : decode cX8_tell 60 = .ok (.ifCond .ne 16, 3) := by decide +kernel
theorem dX8_tell_63 : decode cX8_tell 63 = .ok (.iload_n 3, 1) := by decide +kernel
theorem dX8_tell_64 : decode cX8_tell 64 = .ok (.sipush 950, 3) := by decide +kernel
theorem dX8_tell_67 : decode cX8_tell 67 = .ok (.sipush 1050, 3) := by decide +kernel
theorem dX8_tell_70 : decode cX8_tell 70 = .ok (.invokestatic 63, 3) := by decide +kernel
theorem dX8_tell_73 : decode cX8_tell 73 = .ok (.goto 28, 3) := by decide +kernel
theorem dX8_tell_76 : decode cX8_tell 76 = .ok (.iload_n 2, 1) := by decide +kernel
theorem dX8_tell_77 : decode cX8_tell 77 = .ok (.iconst 1, 1) := by decide +kernel
theorem dX8_tell_78 : decode cX8_tell 78 = .ok (.if_icmp .ne 16, 3) := by decide +kernel
theorem dX8_tell_81 : decode cX8_tell 81 = .ok (.iload_n 3, 1) := by decide +kernel
theorem dX8_tell_82 : decode cX8_tell 82 = .ok (.sipush 995, 3) := by decide +kernel
theorem dX8_tell_85 : decode cX8_tell 85 = .ok (.sipush 1005, 3) := by decide +kernel
theorem dX8_tell_88 : decode cX8_tell 88 = .ok (.invokestatic 63, 3) := by decide +kernel
theorem dX8_tell_91 : decode cX8_tell 91 = .ok (.goto 10, 3) := by decide +kernel
theorem dX8_tell_94 : decode cX8_tell 94 = .ok (.iload_n 3, 1) := by decide +kernel
theorem dX8_tell_95 : decode cX8_tell 95 = .ok (.iconst 1, 1) := by decide +kernel
theorem dX8_tell_96 : decode cX8_tell 96 = .ok (.bipush 9, 2) := by decide +kernel
theorem dX8_tell_98 : decode cX8_tell 98 = .ok (.invokestatic 63, 3) := by decide +kernel
theorem dX8_tell_101 : decode cX8_tell 101 = .ok (.istore 6, 2) := by decide +kernel
theorem dX8_tell_103 : decode cX8_tell 103 = .ok (.iload 6, 2) := by decide +kernel
theorem dX8_tell_105 : decode cX8_tell 105 = .ok (.ifCond .ne 5, 3) := by decide +kernel
theorem dX8_tell_108 : decode cX8_tell 108 = .ok (.iconst (-1), 1) := by decide +kernel
theorem dX8_tell_109 : decode cX8_tell 109 = .ok (.ireturn, 1) := by decide +kernel
theorem dX8_tell_110 : decode cX8_tell 110 = .ok (.aload_n 0, 1) := by decide +kernel
theorem dX8_tell_111 : decode cX8_tell 111 = .ok (.iload_n 1, 1) := by decide +kernel
theorem dX8_tell_112 : decode cX8_tell 112 = .ok (.iload 5, 2) := by decide +kernel
theorem dX8_tell_114 : decode cX8_tell 114 = .ok (.invokevirtual 106, 3) := by decide +kernel
theorem dX8_tell_117 : decode cX8_tell 117 = .ok (.istore 7, 2) := by decide +kernel
theorem dX8_tell_119 : decode cX8_tell 119 = .ok (.iload 7, 2) := by decide +kernel
theorem dX8_tell_121 : decode cX8_tell 121 = .ok (.iload 4, 2) := by decide +kernel
theorem dX8_tell_123 : decode cX8_tell 123 = .ok (.iadd, 1) := by decide +kernel
theorem dX8_tell_124 : decode cX8_tell 124 = .ok (.iload_n 3, 1) := by decide +kernel
theorem dX8_tell_125 : decode cX8_tell 125 = .ok (.if_icmp .ne 6, 3) := by decide +kernel
theorem dX8_tell_128 : decode cX8_tell 128 = .ok (.bipush (-2), 2) := by decide +kernel
theorem dX8_tell_130 : decode cX8_tell 130 = .ok (.ireturn, 1) := by decide +kernel
theorem dX8_tell_131 : decode cX8_tell 131 = .ok (.aload_n 0, 1) := by decide +kernel
theorem dX8_tell_132 : decode cX8_tell 132 = .ok (.invokevirtual 131, 3) := by decide +kernel
theorem dX8_tell_135 : decode cX8_tell 135 = .ok (.aload_n 0, 1) := by decide +kernel
theorem dX8_tell_136 : decode cX8_tell 136 = .ok (.iload_n 1, 1) := by decide +kernel
theorem dX8_tell_137 : decode cX8_tell 137 = .ok (.iload 5, 2) := by decide +kernel
theorem dX8_tell_139 : decode cX8_tell 139 = .ok (.iload_n 3, 1) := by decide +kernel
theorem dX8_tell_140 : decode cX8_tell 140 = .ok (.iload 4, 2) := by decide +kernel
theorem dX8_tell_142 : decode cX8_tell 142 = .ok (.isub, 1) := by decide +kernel
theorem dX8_tell_143 : decode cX8_tell 143 = .ok (.invokevirtual 115, 3) := by decide +kernel
theorem dX8_tell_146 : decode cX8_tell 146 = .ok (.iload 7, 2) := by decide +kernel
theorem dX8_tell_148 : decode cX8_tell 148 = .ok (.iload 4, 2) := by decide +kernel
theorem dX8_tell_150 : decode cX8_tell 150 = .ok (.iadd, 1) := by decide +kernel
theorem dX8_tell_151 : decode cX8_tell 151 = .ok (.ireturn, 1) := by decide +kernel
set_option maxRecDepth 20000 in
theorem ggX8_stuck_X8_of : GoodIn wsX8_stuck wsX8_of := goodIn_r _ [6, 1, 7, 8, 9, 10, 11, 12, 13, 14, 15, 16, 17, 18, 19, 20, 21, 22, 23, 24, 25, 26, 27, 28, 29, 30] (by decide +kernel) (by decide +kernel)
set_option maxRecDepth 20000 in
theorem gX8_stuck_X8_of : GoodIn wsX8_stuck (wsV RX8 106 RX8 yX8_of wsX8_of) := goodIn_app (goodIn_of _ (by decide +kernel)) ggX8_stuck_X8_of
theorem dX8_stuck_0 : decode cX8_stuck 0 = .ok (.iconst 0, 1) := by decide +kernel
theorem dX8_stuck_1 : decode cX8_stuck 1 = .ok (.istore_n 1, 1) := by decide +kernel
theorem dX8_stuck_2 : decode cX8_stuck 2 = .ok (.iconst 0, 1) := by decide +kernel
theorem dX8_stuck_3 : decode cX8_stuck 3 = .ok (.istore_n 2, 1) := by decide +kernel
theorem dX8_stuck_4 : decode cX8_stuck 4 = .ok (.iload_n 2, 1) := by decide +kernel
theorem dX8_stuck_5 : decode cX8_stuck 5 = .ok (.aload_n 0, 1) := by decide +kernel
theorem dX8_stuck_6 : decode cX8_stuck 6 = .ok (.getfield 13, 3) := by decide +kernel
theorem dX8_stuck_9 : decode cX8_stuck 9 = .ok (.iconst 0, 1) := by decide +kernel
theorem dX8_stuck_10 : decode cX8_stuck 10 = .ok (.iaload, 1) := by decide +kernel
theorem dX8_stuck_11 : decode cX8_stuck 11 = .ok (.if_icmp .ge 19, 3) := by decide +kernel
theorem dX8_stuck_14 : decode cX8_stuck 14 = .ok (.iload_n 1, 1) := by decide +kernel
theorem dX8_stuck_15 : decode cX8_stuck 15 = .ok (.aload_n 0, 1) := by decide +kernel
theorem dX8_stuck_16 : decode cX8_stuck 16 = .ok (.iload_n 2, 1) := by decide +kernel
theorem dX8_stuck_17 : decode cX8_stuck 17 = .ok (.bipush 8, 2) := by decide +kernel
theorem dX8_stuck_19 : decode cX8_stuck 19 = .ok (.invokevirtual 106, 3) := by decide +kernel
theorem dX8_stuck_22 : decode cX8_stuck 22 = .ok (.iadd, 1) := by decide +kernel
theorem dX8_stuck_23 : decode cX8_stuck 23 = .ok (.istore_n 1, 1) := by decide +kernel
theorem dX8_stuck_24 : decode cX8_stuck 24 = .ok (.iinc 2 1, 3) := by decide +kernel
theorem dX8_stuck_27 : decode cX8_stuck 27 = .ok (.goto (-23), 3) := by decide +kernel
theorem dX8_stuck_30 : decode cX8_stuck 30 = .ok (.iload_n 1, 1) := by decide +kernel
theorem dX8_stuck_31 : decode cX8_stuck 31 = .ok (.ireturn, 1) := by decide +kernel
set_option maxRecDepth 20000 in
theorem ggX8_stick_X8_isStage : GoodIn wsX8_stick wsX8_isStage := goodIn_r _ [6, 7, 8, 9, 5, 10, 29, 30, 31, 32, 33, 34, 35, 36, 37, 38, 39, 40, 41, 42, 43, 44, 45, 46, 47, 48, 49, 50, 51, 52] (by decide +kernel) (by decide +kernel)
set_option maxRecDepth 20000 in
theorem gX8_stick_X8_isStage : GoodIn wsX8_stick (wsV RX8 134 RX8 yX8_isStage wsX8_isStage) := goodIn_app (goodIn_of _ (by decide +kernel)) ggX8_stick_X8_isStage
set_option maxRecDepth 20000 in
theorem ggX8_stick_X8_in : GoodIn wsX8_stick wsX8_in := goodIn_r _ [10] (by decide +kernel) (by decide +kernel)
set_option maxRecDepth 20000 in
theorem gX8_stick_X8_in : GoodIn wsX8_stick (va_wsS RX8 63 yX8_in wsX8_in) := goodIn_app (goodIn_of _ (by decide +kernel)) ggX8_stick_X8_in
set_option maxRecDepth 20000 in
theorem ggX8_stick_X8_of : GoodIn wsX8_stick wsX8_of := goodIn_r _ [14, 7, 29, 30, 31, 32, 33, 34, 35, 36, 37, 38, 39, 40, 41, 42, 43, 44, 45, 46, 47, 48, 49, 50, 51, 52] (by decide +kernel) (by decide +kernel)
set_option maxRecDepth 20000 in
theorem gX8_stick_X8_of : GoodIn wsX8_stick (wsV RX8 106 RX8 yX8_of wsX8_of) := goodIn_app (goodIn_of _ (by decide +kernel)) ggX8_stick_X8_of
set_option maxRecDepth 20000 in
theorem ggX8_stick_X8_notes : GoodIn wsX8_stick wsX8_notes := goodIn_r _ [18, 19, 20, 7, 29, 30, 31, 32, 33, 34, 35, 36, 37, 38, 39, 40, 41, 42, 43, 44, 45, 46, 47, 48, 49, 50, 51, 52] (by decide +kernel) (by decide +kernel)
set_option maxRecDepth 20000 in
theorem gX8_stick_X8_notes : GoodIn wsX8_stick (wsV RX8 131 RX8 yX8_notes wsX8_notes) := goodIn_app (goodIn_of _ (by decide +kernel)) ggX8_stick_X8_notes
set_option maxRecDepth 20000 in
theorem ggX8_stick_X8_puts : GoodIn wsX8_stick wsX8_puts := goodIn_r _ [24, 7, 29, 30, 31, 32, 33, 34, 35, 36, 37, 38, 39, 40, 41, 42, 43, 44, 45, 46, 47, 48, 49, 50, 51, 52] (by decide +kernel) (by decide +kernel)
set_option maxRecDepth 20000 in
theorem gX8_stick_X8_puts : GoodIn wsX8_stick (wsV RX8 115 RX8 yX8_puts wsX8_puts) := goodIn_app (goodIn_of _ (by decide +kernel)) ggX8_stick_X8_puts
set_option maxRecDepth 20000 in
theorem ggX8_stick_X8_stuck : GoodIn wsX8_stick wsX8_stuck := goodIn_r _ [28, 7, 11, 12, 13, 5, 14, 29, 30, 31, 32, 33, 34, 35, 36, 37, 38, 39, 40, 41, 42, 43, 44, 45, 46, 47, 48, 49, 50, 51, 52] (by decide +kernel) (by decide +kernel)
set_option maxRecDepth 20000 in
theorem gX8_stick_X8_stuck : GoodIn wsX8_stick (wsV RX8 137 RX8 yX8_stuck wsX8_stuck) := goodIn_app (goodIn_of _ (by decide +kernel)) ggX8_stick_X8_stuck
theorem dX8_stick_0 : decode cX8_stick 0 = .ok (.aload_n 0, 1) := by decide +kernel
theorem dX8_stick_1 : decode cX8_stick 1 = .ok (.iconst 0, 1) := by decide +kernel
theorem dX8_stick_2 : decode cX8_stick 2 = .ok (.putfield 59, 3) := by decide +kernel
theorem dX8_stick_5 : decode cX8_stick 5 = .ok (.aload_n 0, 1) := by decide +kernel
theorem dX8_stick_6 : decode cX8_stick 6 = .ok (.iload_n 1, 1) := by decide +kernel
theorem dX8_stick_7 : decode cX8_stick 7 = .ok (.invokevirtual 134, 3) := by decide +kernel
theorem dX8_stick_10 : decode cX8_stick 10 = .ok (.ifCond .eq 12, 3) := by decide +kernel
theorem dX8_stick_13 : decode cX8_stick 13 = .ok (.iload_n 2, 1) := by decide +kernel
theorem dX8_stick_14 : decode cX8_stick 14 = .ok (.iconst 0, 1) := by decide +kernel
theorem dX8_stick_15 : decode cX8_stick 15 = .ok (.iconst 1, 1) := by decide +kernel
theorem dX8_stick_16 : decode cX8_stick 16 = .ok (.invokestatic 63, 3) := by decide +kernel
theorem dX8_stick_19 : decode cX8_stick 19 = .ok (.ifCond .ne 5, 3) := by decide +kernel
theorem dX8_stick_22 : decode cX8_stick 22 = .ok (.iconst (-1), 1) := by decide +kernel
theorem dX8_stick_23 : decode cX8_stick 23 = .ok (.ireturn, 1) := by decide +kernel
theorem dX8_stick_24 : decode cX8_stick 24 = .ok (.aload_n 0, 1) := by decide +kernel
theorem dX8_stick_25 : decode cX8_stick 25 = .ok (.iload_n 1, 1) := by decide +kernel
theorem dX8_stick_26 : decode cX8_stick 26 = .ok (.bipush 8, 2) := by decide +kernel
theorem dX8_stick_28 : decode cX8_stick 28 = .ok (.invokevirtual 106, 3) := by decide +kernel
theorem dX8_stick_31 : decode cX8_stick 31 = .ok (.iload_n 2, 1) := by decide +kernel
theorem dX8_stick_32 : decode cX8_stick 32 = .ok (.if_icmp .ne 6, 3) := by decide +kernel
theorem dX8_stick_35 : decode cX8_stick 35 = .ok (.bipush (-2), 2) := by decide +kernel
theorem dX8_stick_37 : decode cX8_stick 37 = .ok (.ireturn, 1) := by decide +kernel
theorem dX8_stick_38 : decode cX8_stick 38 = .ok (.aload_n 0, 1) := by decide +kernel
theorem dX8_stick_39 : decode cX8_stick 39 = .ok (.invokevirtual 131, 3) := by decide +kernel
theorem dX8_stick_42 : decode cX8_stick 42 = .ok (.aload_n 0, 1) := by decide +kernel
theorem dX8_stick_43 : decode cX8_stick 43 = .ok (.iload_n 1, 1) := by decide +kernel
theorem dX8_stick_44 : decode cX8_stick 44 = .ok (.bipush 8, 2) := by decide +kernel
theorem dX8_stick_46 : decode cX8_stick 46 = .ok (.iload_n 2, 1) := by decide +kernel
theorem dX8_stick_47 : decode cX8_stick 47 = .ok (.invokevirtual 115, 3) := by decide +kernel
theorem dX8_stick_50 : decode cX8_stick 50 = .ok (.aload_n 0, 1) := by decide +kernel
theorem dX8_stick_51 : decode cX8_stick 51 = .ok (.invokevirtual 137, 3) := by decide +kernel
theorem dX8_stick_54 : decode cX8_stick 54 = .ok (.ireturn, 1) := by decide +kernel
set_option maxRecDepth 20000 in
theorem ggX8_tick_X8_in : GoodIn wsX8_tick wsX8_in := goodIn_r _ [6] (by decide +kernel) (by decide +kernel)
set_option maxRecDepth 20000 in
theorem gX8_tick_X8_in : GoodIn wsX8_tick (va_wsS RX8 63 yX8_in wsX8_in) := goodIn_app (goodIn_of _ (by decide +kernel)) ggX8_tick_X8_in
set_option maxRecDepth 20000 in
theorem ggX8_tick_X8_notes : GoodIn wsX8_tick wsX8_notes := goodIn_r _ [10, 11, 12, 2, 54, 55, 56, 57, 58, 59, 60, 61, 62, 63, 64, 65, 66, 67, 68, 69, 70, 71, 72, 73, 74, 75, 76, 77] (by decide +kernel) (by decide +kernel)
set_option maxRecDepth 20000 in
theorem gX8_tick_X8_notes : GoodIn wsX8_tick (wsV RX8 131 RX8 yX8_notes wsX8_notes) := goodIn_app (goodIn_of _ (by decide +kernel)) ggX8_tick_X8_notes
set_option maxRecDepth 20000 in
theorem ggX8_tick_X8_ticks : GoodIn wsX8_tick wsX8_ticks := goodIn_r _ [16, 2, 17, 18, 19, 20, 21, 22, 5, 23, 24, 25, 26, 27, 28, 29, 30, 31, 32, 33, 34, 35, 36, 37, 3, 4, 6, 38, 39, 40, 41, 42, 43, 44, 45, 46, 47, 48, 49, 50, 51, 52, 53, 54, 55, 56, 57, 58, 59, 60, 61, 62, 63, 64, 65, 66, 67, 68, 69, 70, 71, 72, 73, 74, 75, 76, 77] (by decide +kernel) (by decide +kernel)
set_option maxRecDepth 20000 in
theorem gX8_tick_X8_ticks : GoodIn wsX8_tick (wsV RX8 140 RX8 yX8_ticks wsX8_ticks) := goodIn_app (goodIn_of _ (by decide +kernel)) ggX8_tick_X8_ticks
theorem dX8_tick_0 : decode cX8_tick 0 = .ok (.aload_n 0, 1) := by decide +kernel
theorem dX8_tick_1 : decode cX8_tick 1 = .ok (.iconst 0, 1) := by decide +kernel
theorem dX8_tick_2 : decode cX8_tick 2 = .ok (.putfield 59, 3) := by decide +kernel
theorem dX8_tick_5 : decode cX8_tick 5 = .ok (.iload_n 1, 1) := by decide +kernel
theorem dX8_tick_6 : decode cX8_tick 6 = .ok (.iconst 1, 1) := by decide +kernel
theorem dX8_tick_7 : decode cX8_tick 7 = .ok (.bipush 50, 2) := by decide +kernel
theorem dX8_tick_9 : decode cX8_tick 9 = .ok (.invokestatic 63, 3) := by decide +kernel
theorem dX8_tick_12 : decode cX8_tick 12 = .ok (.ifCond .ne 5, 3) := by decide +kernel
theorem dX8_tick_15 : decode cX8_tick 15 = .ok (.iconst (-1), 1) := by decide +kernel
theorem dX8_tick_16 : decode cX8_tick 16 = .ok (.ireturn, 1) := by decide +kernel
theorem dX8_tick_17 : decode cX8_tick 17 = .ok (.aload_n 0, 1) := by decide +kernel
theorem dX8_tick_18 : decode cX8_tick 18 = .ok (.getfield 13, 3) := by decide +kernel
theorem dX8_tick_21 : decode cX8_tick 21 = .ok (.iconst 2, 1) := by decide +kernel
theorem dX8_tick_22 : decode cX8_tick 22 = .ok (.iaload, 1) := by decide +kernel
theorem dX8_tick_23 : decode cX8_tick 23 = .ok (.iload_n 1, 1) := by decide +kernel
theorem dX8_tick_24 : decode cX8_tick 24 = .ok (.iadd, 1) := by decide +kernel
theorem dX8_tick_25 : decode cX8_tick 25 = .ok (.sipush 9999, 3) := by decide +kernel
theorem dX8_tick_28 : decode cX8_tick 28 = .ok (.if_icmp .le 6, 3) := by decide +kernel
theorem dX8_tick_31 : decode cX8_tick 31 = .ok (.bipush (-2), 2) := by decide +kernel
theorem dX8_tick_33 : decode cX8_tick 33 = .ok (.ireturn, 1) := by decide +kernel
theorem dX8_tick_34 : decode cX8_tick 34 = .ok (.aload_n 0, 1) := by decide +kernel
theorem dX8_tick_35 : decode cX8_tick 35 = .ok (.invokevirtual 131, 3) := by decide +kernel
theorem dX8_tick_38 : decode cX8_tick 38 = .ok (.aload_n 0, 1) := by decide +kernel
theorem dX8_tick_39 : decode cX8_tick 39 = .ok (.getfield 13, 3) := by decide +kernel
theorem dX8_tick_42 : decode cX8_tick 42 = .ok (.iconst 3, 1) := by decide +kernel
theorem dX8_tick_43 : decode cX8_tick 43 = .ok (.iaload, 1) := by decide +kernel
theorem dX8_tick_44 : decode cX8_tick 44 = .ok (.istore_n 2, 1) := by decide +kernel
theorem dX8_tick_45 : decode cX8_tick 45 = .ok (.iconst 0, 1) := by decide +kernel
theorem dX8_tick_46 : decode cX8_tick 46 = .ok (.istore_n 3, 1) := by decide +kernel
theorem dX8_tick_47 : decode cX8_tick 47 = .ok (.iload_n 3, 1) := by decide +kernel
theorem dX8_tick_48 : decode cX8_tick 48 = .ok (.iload_n 1, 1) := by decide +kernel
theorem dX8_tick_49 : decode cX8_tick 49 = .ok (.if_icmp .ge 13, 3) := by decide +kernel
theorem dX8_tick_52 : decode cX8_tick 52 = .ok (.aload_n 0, 1) := by decide +kernel
theorem dX8_tick_53 : decode cX8_tick 53 = .ok (.invokevirtual 140, 3) := by decide +kernel
theorem dX8_tick_56 : decode cX8_tick 56 = .ok (.iinc 3 1, 3) := by decide +kernel
theorem dX8_tick_59 : decode cX8_tick 59 = .ok (.goto (-12), 3) := by decide +kernel
theorem dX8_tick_62 : decode cX8_tick 62 = .ok (.aload_n 0, 1) := by decide +kernel
theorem dX8_tick_63 : decode cX8_tick 63 = .ok (.getfield 13, 3) := by decide +kernel
theorem dX8_tick_66 : decode cX8_tick 66 = .ok (.iconst 3, 1) := by decide +kernel
theorem dX8_tick_67 : decode cX8_tick 67 = .ok (.iaload, 1) := by decide +kernel
theorem dX8_tick_68 : decode cX8_tick 68 = .ok (.iload_n 2, 1) := by decide +kernel
theorem dX8_tick_69 : decode cX8_tick 69 = .ok (.isub, 1) := by decide +kernel
theorem dX8_tick_70 : decode cX8_tick 70 = .ok (.ireturn, 1) := by decide +kernel
theorem dX8_undo_0 : decode cX8_undo 0 = .ok (.aload_n 0, 1) := by decide +kernel
theorem dX8_undo_1 : decode cX8_undo 1 = .ok (.iconst 0, 1) := by decide +kernel
theorem dX8_undo_2 : decode cX8_undo 2 = .ok (.putfield 59, 3) := by decide +kernel
theorem dX8_undo_5 : decode cX8_undo 5 = .ok (.aload_n 0, 1) := by decide +kernel
theorem dX8_undo_6 : decode cX8_undo 6 = .ok (.getfield 103, 3) := by decide +kernel
theorem dX8_undo_9 : decode cX8_undo 9 = .ok (.ifCond .ne 6, 3) := by decide +kernel
theorem dX8_undo_12 : decode cX8_undo 12 = .ok (.bipush (-2), 2) := by decide +kernel
theorem dX8_undo_14 : decode cX8_undo 14 = .ok (.ireturn, 1) := by decide +kernel
theorem dX8_undo_15 : decode cX8_undo 15 = .ok (.aload_n 0, 1) := by decide +kernel
theorem dX8_undo_16 : decode cX8_undo 16 = .ok (.dup, 1) := by decide +kernel
theorem dX8_undo_17 : decode cX8_undo 17 = .ok (.getfield 103, 3) := by decide +kernel
theorem dX8_undo_20 : decode cX8_undo 20 = .ok (.iconst 1, 1) := by decide +kernel
theorem dX8_undo_21 : decode cX8_undo 21 = .ok (.isub, 1) := by decide +kernel
theorem dX8_undo_22 : decode cX8_undo 22 = .ok (.putfield 103, 3) := by decide +kernel
theorem dX8_undo_25 : decode cX8_undo 25 = .ok (.iconst 0, 1) := by decide +kernel
theorem dX8_undo_26 : decode cX8_undo 26 = .ok (.istore_n 1, 1) := by decide +kernel
theorem dX8_undo_27 : decode cX8_undo 27 = .ok (.iload_n 1, 1) := by decide +kernel
theorem dX8_undo_28 : decode cX8_undo 28 = .ok (.bipush 114, 2) := by decide +kernel
theorem dX8_undo_30 : decode cX8_undo 30 = .ok (.if_icmp .ge 29, 3) := by decide +kernel
theorem dX8_undo_33 : decode cX8_undo 33 = .ok (.aload_n 0, 1) := by decide +kernel
theorem dX8_undo_34 : decode cX8_undo 34 = .ok (.getfield 13, 3) := by decide +kernel
theorem dX8_undo_37 : decode cX8_undo 37 = .ok (.iload_n 1, 1) := by decide +kernel
theorem dX8_undo_38 : decode cX8_undo 38 = .ok (.aload_n 0, 1) := by decide +kernel
theorem dX8_undo_39 : decode cX8_undo 39 = .ok (.getfield 20, 3) := by decide +kernel
theorem dX8_undo_42 : decode cX8_undo 42 = .ok (.bipush 114, 2) := by decide +kernel
theorem dX8_undo_44 : decode cX8_undo 44 = .ok (.aload_n 0, 1) := by decide +kernel
theorem dX8_undo_45 : decode cX8_undo 45 = .ok (.getfield 103, 3) := by decide +kernel
theorem dX8_undo_48 : decode cX8_undo 48 = .ok (.imul, 1) := by decide +kernel
theorem dX8_undo_49 : decode cX8_undo 49 = .ok (.iload_n 1, 1) := by decide +kernel
theorem dX8_undo_50 : decode cX8_undo 50 = .ok (.iadd, 1) := by decide +kernel
theorem dX8_undo_51 : decode cX8_undo 51 = .ok (.iaload, 1) := by decide +kernel
theorem dX8_undo_52 : decode cX8_undo 52 = .ok (.iastore, 1) := by decide +kernel
theorem dX8_undo_53 : decode cX8_undo 53 = .ok (.iinc 1 1, 3) := by decide +kernel
theorem dX8_undo_56 : decode cX8_undo 56 = .ok (.goto (-29), 3) := by decide +kernel
theorem dX8_undo_59 : decode cX8_undo 59 = .ok (.aload_n 0, 1) := by decide +kernel
theorem dX8_undo_60 : decode cX8_undo 60 = .ok (.getfield 103, 3) := by decide +kernel
theorem dX8_undo_63 : decode cX8_undo 63 = .ok (.ireturn, 1) := by decide +kernel
set_option maxRecDepth 20000 in
theorem ggX8_stage_X8_isStage : GoodIn wsX8_stage wsX8_isStage := goodIn_r _ [11, 12, 13, 14, 10, 15, 31, 32, 33, 34, 35, 36, 37, 38, 39, 40, 41, 42, 43, 44, 45, 46, 47, 48, 49, 50, 51, 52, 53, 54] (by decide +kernel) (by decide +kernel)
set_option maxRecDepth 20000 in
theorem gX8_stage_X8_isStage : GoodIn wsX8_stage (wsV RX8 134 RX8 yX8_isStage wsX8_isStage) := goodIn_app (goodIn_of _ (by decide +kernel)) ggX8_stage_X8_isStage
set_option maxRecDepth 20000 in
theorem ggX8_stage_X8_in : GoodIn wsX8_stage wsX8_in := goodIn_r _ [15] (by decide +kernel) (by decide +kernel)
set_option maxRecDepth 20000 in
theorem gX8_stage_X8_in : GoodIn wsX8_stage (va_wsS RX8 63 yX8_in wsX8_in) := goodIn_app (goodIn_of _ (by decide +kernel)) ggX8_stage_X8_in
set_option maxRecDepth 20000 in
theorem ggX8_stage_X8_lays : GoodIn wsX8_stage wsX8_lays := goodIn_r _ [19, 12, 2, 3, 4, 5, 6, 20, 21, 22, 10, 23, 24, 25, 26, 27, 28, 29, 30, 13, 14, 15, 31, 32, 33, 34, 35, 36, 37, 38, 39, 40, 41, 42, 43, 44, 45, 46, 47, 48, 49, 50, 51, 52, 53, 54] (by decide +kernel) (by decide +kernel)
set_option maxRecDepth 20000 in
theorem gX8_stage_X8_lays : GoodIn wsX8_stage (wsV RX8 119 RX8 yX8_lays wsX8_lays) := goodIn_app (goodIn_of _ (by decide +kernel)) ggX8_stage_X8_lays
set_option maxRecDepth 20000 in
theorem ggX8_stage_X8_of : GoodIn wsX8_stage wsX8_of := goodIn_r _ [23, 12, 31, 32, 33, 34, 35, 36, 37, 38, 39, 40, 41, 42, 43, 44, 45, 46, 47, 48, 49, 50, 51, 52, 53, 54] (by decide +kernel) (by decide +kernel)
set_option maxRecDepth 20000 in
theorem gX8_stage_X8_of : GoodIn wsX8_stage (wsV RX8 106 RX8 yX8_of wsX8_of) := goodIn_app (goodIn_of _ (by decide +kernel)) ggX8_stage_X8_of
set_option maxRecDepth 20000 in
theorem ggX8_stage_X8_goodOf : GoodIn wsX8_stage wsX8_goodOf := goodIn_r _ [27, 4, 20, 21, 22, 10, 23, 12, 31, 32, 33, 34, 35, 36, 37, 38, 39, 40, 41, 42, 43, 44, 45, 46, 47, 48, 49, 50, 51, 52, 53, 54] (by decide +kernel) (by decide +kernel)
set_option maxRecDepth 20000 in
theorem gX8_stage_X8_goodOf : GoodIn wsX8_stage (wsV RX8 109 RX8 yX8_goodOf wsX8_goodOf) := goodIn_app (goodIn_of _ (by decide +kernel)) ggX8_stage_X8_goodOf
theorem dX8_stage_0 : decode cX8_stage 0 = .ok (.aload_n 0, 1) := by decide +kernel
theorem dX8_stage_1 : decode cX8_stage 1 = .ok (.iconst 0, 1) := by decide +kernel
theorem dX8_stage_2 : decode cX8_stage 2 = .ok (.putfield 59, 3) := by decide +kernel
theorem dX8_stage_5 : decode cX8_stage 5 = .ok (.aload_n 0, 1) := by decide +kernel
theorem dX8_stage_6 : decode cX8_stage 6 = .ok (.iload_n 1, 1) := by decide +kernel
theorem dX8_stage_7 : decode cX8_stage 7 = .ok (.invokevirtual 134, 3) := by decide +kernel
theorem dX8_stage_10 : decode cX8_stage 10 = .ok (.ifCond .eq 13, 3) := by decide +kernel
theorem dX8_stage_13 : decode cX8_stage 13 = .ok (.iload_n 2, 1) := by decide +kernel
theorem dX8_stage_14 : decode cX8_stage 14 = .ok (.iconst 0, 1) := by decide +kernel
theorem dX8_stage_15 : decode cX8_stage 15 = .ok (.bipush 15, 2) := by decide +kernel
theorem dX8_stage_17 : decode cX8_stage 17 = .ok (.invokestatic 63, 3) := by decide +kernel
theorem dX8_stage_20 : decode cX8_stage 20 = .ok (.ifCond .ne 5, 3) := by decide +kernel
theorem dX8_stage_23 : decode cX8_stage 23 = .ok (.iconst (-1), 1) := by decide +kernel
theorem dX8_stage_24 : decode cX8_stage 24 = .ok (.ireturn, 1) := by decide +kernel
theorem dX8_stage_25 : decode cX8_stage 25 = .ok (.aload_n 0, 1) := by decide +kernel
theorem dX8_stage_26 : decode cX8_stage 26 = .ok (.invokevirtual 119, 3) := by decide +kernel
theorem dX8_stage_29 : decode cX8_stage 29 = .ok (.iload_n 2, 1) := by decide +kernel
theorem dX8_stage_30 : decode cX8_stage 30 = .ok (.tableswitch 138 5 15 #[58, 138, 58, 138, 69, 80, 91, 102, 108, 115, 123], 58) := by decide +kernel
theorem dX8_stage_88 : decode cX8_stage 88 = .ok (.aload_n 0, 1) := by decide +kernel
theorem dX8_stage_89 : decode cX8_stage 89 = .ok (.iload_n 1, 1) := by decide +kernel
theorem dX8_stage_90 : decode cX8_stage 90 = .ok (.iload_n 2, 1) := by decide +kernel
theorem dX8_stage_91 : decode cX8_stage 91 = .ok (.invokevirtual 106, 3) := by decide +kernel
theorem dX8_stage_94 : decode cX8_stage 94 = .ok (.sipush 1000, 3) := by decide +kernel
theorem dX8_stage_97 : decode cX8_stage 97 = .ok (.iadd, 1) := by decide +kernel
theorem dX8_stage_98 : decode cX8_stage 98 = .ok (.ireturn, 1) := by decide +kernel
theorem dX8_stage_99 : decode cX8_stage 99 = .ok (.aload_n 0, 1) := by decide +kernel
theorem dX8_stage_100 : decode cX8_stage 100 = .ok (.getfield 23, 3) := by decide +kernel
theorem dX8_stage_103 : decode cX8_stage 103 = .ok (.iload_n 1, 1) := by decide +kernel
theorem dX8_stage_104 : decode cX8_stage 104 = .ok (.iaload, 1) := by decide +kernel
theorem dX8_stage_105 : decode cX8_stage 105 = .ok (.sipush 1000, 3) := by decide +kernel
theorem dX8_stage_108 : decode cX8_stage 108 = .ok (.iadd, 1) := by decide +kernel
theorem dX8_stage_109 : decode cX8_stage 109 = .ok (.ireturn, 1) := by decide +kernel
theorem dX8_stage_110 : decode cX8_stage 110 = .ok (.aload_n 0, 1) := by decide +kernel
theorem dX8_stage_111 : decode cX8_stage 111 = .ok (.getfield 26, 3) := by decide +kernel
theorem dX8_stage_114 : decode cX8_stage 114 = .ok (.iload_n 1, 1) := by decide +kernel
theorem dX8_stage_115 : decode cX8_stage 115 = .ok (.iaload, 1) := by decide +kernel
theorem dX8_stage_116 : decode cX8_stage 116 = .ok (.sipush 1000, 3) := by decide +kernel
theorem dX8_stage_119 : decode cX8_stage 119 = .ok (.iadd, 1) := by decide +kernel
theorem dX8_stage_120 : decode cX8_stage 120 = .ok (.ireturn, 1) := by decide +kernel
theorem dX8_stage_121 : decode cX8_stage 121 = .ok (.aload_n 0, 1) := by decide +kernel
theorem dX8_stage_122 : decode cX8_stage 122 = .ok (.getfield 29, 3) := by decide +kernel
theorem dX8_stage_125 : decode cX8_stage 125 = .ok (.iload_n 1, 1) := by decide +kernel
theorem dX8_stage_126 : decode cX8_stage 126 = .ok (.iaload, 1) := by decide +kernel
theorem dX8_stage_127 : decode cX8_stage 127 = .ok (.sipush 1000, 3) := by decide +kernel
theorem dX8_stage_130 : decode cX8_stage 130 = .ok (.iadd, 1) := by decide +kernel
theorem dX8_stage_131 : decode cX8_stage 131 = .ok (.ireturn, 1) := by decide +kernel
theorem dX8_stage_132 : decode cX8_stage 132 = .ok (.aload_n 0, 1) := by decide +kernel
theorem dX8_stage_133 : decode cX8_stage 133 = .ok (.iload_n 1, 1) := by decide +kernel
theorem dX8_stage_134 : decode cX8_stage 134 = .ok (.invokevirtual 109, 3) := by decide +kernel
theorem dX8_stage_137 : decode cX8_stage 137 = .ok (.ireturn, 1) := by decide +kernel
theorem dX8_stage_138 : decode cX8_stage 138 = .ok (.aload_n 0, 1) := by decide +kernel
theorem dX8_stage_139 : decode cX8_stage 139 = .ok (.getfield 32, 3) := by decide +kernel
theorem dX8_stage_142 : decode cX8_stage 142 = .ok (.iload_n 1, 1) := by decide +kernel
theorem dX8_stage_143 : decode cX8_stage 143 = .ok (.iaload, 1) := by decide +kernel
theorem dX8_stage_144 : decode cX8_stage 144 = .ok (.ireturn, 1) := by decide +kernel
theorem dX8_stage_145 : decode cX8_stage 145 = .ok (.aload_n 0, 1) := by decide +kernel
theorem dX8_stage_146 : decode cX8_stage 146 = .ok (.iload_n 1, 1) := by decide +kernel
theorem dX8_stage_147 : decode cX8_stage 147 = .ok (.bipush 9, 2) := by decide +kernel
theorem dX8_stage_149 : decode cX8_stage 149 = .ok (.invokevirtual 106, 3) := by decide +kernel
theorem dX8_stage_152 : decode cX8_stage 152 = .ok (.ireturn, 1) := by decide +kernel
theorem dX8_stage_153 : decode cX8_stage 153 = .ok (.aload_n 0, 1) := by decide +kernel
theorem dX8_stage_154 : decode cX8_stage 154 = .ok (.getfield 35, 3) := by decide +kernel
theorem dX8_stage_157 : decode cX8_stage 157 = .ok (.iload_n 1, 1) := by decide +kernel
theorem dX8_stage_158 : decode cX8_stage 158 = .ok (.baload, 1) := by decide +kernel
theorem dX8_stage_159 : decode cX8_stage 159 = .ok (.ifCond .eq 7, 3) := by decide +kernel
theorem dX8_stage_162 : decode cX8_stage 162 = .ok (.iconst 1, 1) := by decide +kernel
theorem dX8_stage_163 : decode cX8_stage 163 = .ok (.goto 4, 3) := by decide +kernel
theorem dX8_stage_166 : decode cX8_stage 166 = .ok (.iconst 0, 1) := by decide +kernel
theorem dX8_stage_167 : decode cX8_stage 167 = .ok (.ireturn, 1) := by decide +kernel
theorem dX8_stage_168 : decode cX8_stage 168 = .ok (.aload_n 0, 1) := by decide +kernel
theorem dX8_stage_169 : decode cX8_stage 169 = .ok (.iload_n 1, 1) := by decide +kernel
theorem dX8_stage_170 : decode cX8_stage 170 = .ok (.iload_n 2, 1) := by decide +kernel
theorem dX8_stage_171 : decode cX8_stage 171 = .ok (.invokevirtual 106, 3) := by decide +kernel
theorem dX8_stage_174 : decode cX8_stage 174 = .ok (.ireturn, 1) := by decide +kernel
set_option maxRecDepth 20000 in
theorem ggX8_done_X8_in : GoodIn wsX8_done wsX8_in := goodIn_r _ [6] (by decide +kernel) (by decide +kernel)
set_option maxRecDepth 20000 in
theorem gX8_done_X8_in : GoodIn wsX8_done (va_wsS RX8 63 yX8_in wsX8_in) := goodIn_app (goodIn_of _ (by decide +kernel)) ggX8_done_X8_in
theorem dX8_done_0 : decode cX8_done 0 = .ok (.aload_n 0, 1) := by decide +kernel
theorem dX8_done_1 : decode cX8_done 1 = .ok (.iconst 0, 1) := by decide +kernel
theorem dX8_done_2 : decode cX8_done 2 = .ok (.putfield 59, 3) := by decide +kernel
theorem dX8_done_5 : decode cX8_done 5 = .ok (.iload_n 1, 1) := by decide +kernel
theorem dX8_done_6 : decode cX8_done 6 = .ok (.ifCond .lt 12, 3) := by decide +kernel
theorem dX8_done_9 : decode cX8_done 9 = .ok (.iload_n 2, 1) := by decide +kernel
theorem dX8_done_10 : decode cX8_done 10 = .ok (.iconst 0, 1) := by decide +kernel
theorem dX8_done_11 : decode cX8_done 11 = .ok (.iconst 2, 1) := by decide +kernel
theorem dX8_done_12 : decode cX8_done 12 = .ok (.invokestatic 63, 3) := by decide +kernel
theorem dX8_done_15 : decode cX8_done 15 = .ok (.ifCond .ne 5, 3) := by decide +kernel
theorem dX8_done_18 : decode cX8_done 18 = .ok (.iconst (-1), 1) := by decide +kernel
theorem dX8_done_19 : decode cX8_done 19 = .ok (.ireturn, 1) := by decide +kernel
theorem dX8_done_20 : decode cX8_done 20 = .ok (.iload_n 1, 1) := by decide +kernel
theorem dX8_done_21 : decode cX8_done 21 = .ok (.aload_n 0, 1) := by decide +kernel
theorem dX8_done_22 : decode cX8_done 22 = .ok (.getfield 13, 3) := by decide +kernel
theorem dX8_done_25 : decode cX8_done 25 = .ok (.iconst 5, 1) := by decide +kernel
theorem dX8_done_26 : decode cX8_done 26 = .ok (.iaload, 1) := by decide +kernel
theorem dX8_done_27 : decode cX8_done 27 = .ok (.if_icmp .ge 28, 3) := by decide +kernel
theorem dX8_done_30 : decode cX8_done 30 = .ok (.aload_n 0, 1) := by decide +kernel
theorem dX8_done_31 : decode cX8_done 31 = .ok (.getfield 13, 3) := by decide +kernel
theorem dX8_done_34 : decode cX8_done 34 = .ok (.bipush 54, 2) := by decide +kernel
theorem dX8_done_36 : decode cX8_done 36 = .ok (.iconst 3, 1) := by decide +kernel
theorem dX8_done_37 : decode cX8_done 37 = .ok (.aload_n 0, 1) := by decide +kernel
theorem dX8_done_38 : decode cX8_done 38 = .ok (.getfield 13, 3) := by decide +kernel
theorem dX8_done_41 : decode cX8_done 41 = .ok (.iconst 5, 1) := by decide +kernel
theorem dX8_done_42 : decode cX8_done 42 = .ok (.iaload, 1) := by decide +kernel
theorem dX8_done_43 : decode cX8_done 43 = .ok (.iconst 1, 1) := by decide +kernel
theorem dX8_done_44 : decode cX8_done 44 = .ok (.isub, 1) := by decide +kernel
theorem dX8_done_45 : decode cX8_done 45 = .ok (.iload_n 1, 1) := by decide +kernel
theorem dX8_done_46 : decode cX8_done 46 = .ok (.isub, 1) := by decide +kernel
theorem dX8_done_47 : decode cX8_done 47 = .ok (.imul, 1) := by decide +kernel
theorem dX8_done_48 : decode cX8_done 48 = .ok (.iadd, 1) := by decide +kernel
theorem dX8_done_49 : decode cX8_done 49 = .ok (.iload_n 2, 1) := by decide +kernel
theorem dX8_done_50 : decode cX8_done 50 = .ok (.iadd, 1) := by decide +kernel
theorem dX8_done_51 : decode cX8_done 51 = .ok (.iaload, 1) := by decide +kernel
theorem dX8_done_52 : decode cX8_done 52 = .ok (.goto 5, 3) := by decide +kernel
theorem dX8_done_55 : decode cX8_done 55 = .ok (.bipush (-4), 2) := by decide +kernel
theorem dX8_done_57 : decode cX8_done 57 = .ok (.ireturn, 1) := by decide +kernel
set_option maxRecDepth 20000 in
theorem ggX8_codeOf_X8_of : GoodIn wsX8_codeOf wsX8_of := goodIn_r _ [7, 1, 8, 9, 10, 11, 12, 13, 14, 15, 16, 17, 18, 19, 20, 21, 22, 23, 24, 25, 26, 27, 28, 29, 30, 31] (by decide +kernel) (by decide +kernel)
set_option maxRecDepth 20000 in
theorem gX8_codeOf_X8_of : GoodIn wsX8_codeOf (wsV RX8 106 RX8 yX8_of wsX8_of) := goodIn_app (goodIn_of _ (by decide +kernel)) ggX8_codeOf_X8_of
theorem dX8_codeOf_0 : decode cX8_codeOf 0 = .ok (.lconst 0, 1) := by decide +kernel
theorem dX8_codeOf_1 : decode cX8_codeOf 1 = .ok (.lstore_n 1, 1) := by decide +kernel
theorem dX8_codeOf_2 : decode cX8_codeOf 2 = .ok (.iconst 0, 1) := by decide +kernel
theorem dX8_codeOf_3 : decode cX8_codeOf 3 = .ok (.istore_n 3, 1) := by decide +kernel
theorem dX8_codeOf_4 : decode cX8_codeOf 4 = .ok (.iload_n 3, 1) := by decide +kernel
theorem dX8_codeOf_5 : decode cX8_codeOf 5 = .ok (.aload_n 0, 1) := by decide +kernel
theorem dX8_codeOf_6 : decode cX8_codeOf 6 = .ok (.getfield 13, 3) := by decide +kernel
theorem dX8_codeOf_9 : decode cX8_codeOf 9 = .ok (.iconst 0, 1) := by decide +kernel
theorem dX8_codeOf_10 : decode cX8_codeOf 10 = .ok (.iaload, 1) := by decide +kernel
theorem dX8_codeOf_11 : decode cX8_codeOf 11 = .ok (.if_icmp .ge 49, 3) := by decide +kernel
theorem dX8_codeOf_14 : decode cX8_codeOf 14 = .ok (.lload_n 1, 1) := by decide +kernel
theorem dX8_codeOf_15 : decode cX8_codeOf 15 = .ok (.ldc2_w 143, 3) := by decide +kernel
theorem dX8_codeOf_18 : decode cX8_codeOf 18 = .ok (.lmul, 1) := by decide +kernel
theorem dX8_codeOf_19 : decode cX8_codeOf 19 = .ok (.aload_n 0, 1) := by decide +kernel
theorem dX8_codeOf_20 : decode cX8_codeOf 20 = .ok (.iload_n 3, 1) := by decide +kernel
theorem dX8_codeOf_21 : decode cX8_codeOf 21 = .ok (.bipush 7, 2) := by decide +kernel
theorem dX8_codeOf_23 : decode cX8_codeOf 23 = .ok (.invokevirtual 106, 3) := by decide +kernel
theorem dX8_codeOf_26 : decode cX8_codeOf 26 = .ok (.iconst 5, 1) := by decide +kernel
theorem dX8_codeOf_27 : decode cX8_codeOf 27 = .ok (.iadd, 1) := by decide +kernel
theorem dX8_codeOf_28 : decode cX8_codeOf 28 = .ok (.bipush 64, 2) := by decide +kernel
theorem dX8_codeOf_30 : decode cX8_codeOf 30 = .ok (.imul, 1) := by decide +kernel
theorem dX8_codeOf_31 : decode cX8_codeOf 31 = .ok (.i2l, 1) := by decide +kernel
theorem dX8_codeOf_32 : decode cX8_codeOf 32 = .ok (.ladd, 1) := by decide +kernel
theorem dX8_codeOf_33 : decode cX8_codeOf 33 = .ok (.aload_n 0, 1) := by decide +kernel
theorem dX8_codeOf_34 : decode cX8_codeOf 34 = .ok (.iload_n 3, 1) := by decide +kernel
theorem dX8_codeOf_35 : decode cX8_codeOf 35 = .ok (.bipush 9, 2) := by decide +kernel
theorem dX8_codeOf_37 : decode cX8_codeOf 37 = .ok (.invokevirtual 106, 3) := by decide +kernel
theorem dX8_codeOf_40 : decode cX8_codeOf 40 = .ok (.iconst 4, 1) := by decide +kernel
theorem dX8_codeOf_41 : decode cX8_codeOf 41 = .ok (.imul, 1) := by decide +kernel
theorem dX8_codeOf_42 : decode cX8_codeOf 42 = .ok (.i2l, 1) := by decide +kernel
theorem dX8_codeOf_43 : decode cX8_codeOf 43 = .ok (.ladd, 1) := by decide +kernel
theorem dX8_codeOf_44 : decode cX8_codeOf 44 = .ok (.aload_n 0, 1) := by decide +kernel
theorem dX8_codeOf_45 : decode cX8_codeOf 45 = .ok (.iload_n 3, 1) := by decide +kernel
theorem dX8_codeOf_46 : decode cX8_codeOf 46 = .ok (.bipush 10, 2) := by decide +kernel
theorem dX8_codeOf_48 : decode cX8_codeOf 48 = .ok (.invokevirtual 106, 3) := by decide +kernel
theorem dX8_codeOf_51 : decode cX8_codeOf 51 = .ok (.i2l, 1) := by decide +kernel
theorem dX8_codeOf_52 : decode cX8_codeOf 52 = .ok (.ladd, 1) := by decide +kernel
theorem dX8_codeOf_53 : decode cX8_codeOf 53 = .ok (.lstore_n 1, 1) := by decide +kernel
theorem dX8_codeOf_54 : decode cX8_codeOf 54 = .ok (.iinc 3 1, 3) := by decide +kernel
theorem dX8_codeOf_57 : decode cX8_codeOf 57 = .ok (.goto (-53), 3) := by decide +kernel
theorem dX8_codeOf_60 : decode cX8_codeOf 60 = .ok (.lload_n 1, 1) := by decide +kernel
theorem dX8_codeOf_61 : decode cX8_codeOf 61 = .ok (.lreturn, 1) := by decide +kernel
set_option maxRecDepth 20000 in
theorem ggX8_settles_X8_lays : GoodIn wsX8_settles wsX8_lays := goodIn_r _ [13, 6, 14, 15, 16, 17, 18, 19, 20, 21, 12, 22, 23, 24, 25, 26, 27, 28, 29, 30, 31, 32, 63, 64, 65, 66, 67, 68, 69, 70, 71, 72, 73, 74, 75, 76, 77, 78, 79, 80, 81, 82, 83, 84, 85, 86] (by decide +kernel) (by decide +kernel)
set_option maxRecDepth 20000 in
theorem gX8_settles_X8_lays : GoodIn wsX8_settles (wsV RX8 119 RX8 yX8_lays wsX8_lays) := goodIn_app (goodIn_of _ (by decide +kernel)) ggX8_settles_X8_lays
set_option maxRecDepth 20000 in
theorem ggX8_settles_X8_isQuiet : GoodIn wsX8_settles wsX8_isQuiet := goodIn_r _ [36, 6, 18, 63, 64, 65, 66, 67, 68, 69, 70, 71, 72, 73, 74, 75, 76, 77, 78, 79, 80, 81, 82, 83, 84, 85, 86] (by decide +kernel) (by decide +kernel)
set_option maxRecDepth 20000 in
theorem gX8_settles_X8_isQuiet : GoodIn wsX8_settles (wsV RX8 157 RX8 yX8_isQuiet wsX8_isQuiet) := goodIn_app (goodIn_of _ (by decide +kernel)) ggX8_settles_X8_isQuiet
set_option maxRecDepth 20000 in
theorem ggX8_settles_X8_codeOf : GoodIn wsX8_settles wsX8_codeOf := goodIn_r _ [40, 6, 41, 19, 20, 21, 12, 22, 63, 64, 65, 66, 67, 68, 69, 70, 71, 72, 73, 74, 75, 76, 77, 78, 79, 80, 81, 82, 83, 84, 85, 86] (by decide +kernel) (by decide +kernel)
set_option maxRecDepth 20000 in
theorem gX8_settles_X8_codeOf : GoodIn wsX8_settles (wsV RX8 161 RX8 yX8_codeOf wsX8_codeOf) := goodIn_app (goodIn_of _ (by decide +kernel)) ggX8_settles_X8_codeOf
set_option maxRecDepth 20000 in
theorem ggX8_settles_X8_ticks : GoodIn wsX8_settles wsX8_ticks := goodIn_r _ [45, 6, 46, 18, 17, 9, 10, 11, 12, 13, 14, 15, 16, 19, 20, 21, 22, 23, 24, 25, 26, 27, 28, 29, 30, 31, 32, 47, 48, 49, 50, 51, 52, 53, 54, 55, 56, 57, 58, 59, 60, 61, 62, 63, 64, 65, 66, 67, 68, 69, 70, 71, 72, 73, 74, 75, 76, 77, 78, 79, 80, 81, 82, 83, 84, 85, 86] (by decide +kernel) (by decide +kernel)
set_option maxRecDepth 20000 in
theorem gX8_settles_X8_ticks : GoodIn wsX8_settles (wsV RX8 140 RX8 yX8_ticks wsX8_ticks) := goodIn_app (goodIn_of _ (by decide +kernel)) ggX8_settles_X8_ticks
theorem dX8_settles_0 : decode cX8_settles 0 = .ok (.aload_n 0, 1) := by decide +kernel
theorem dX8_settles_1 : decode cX8_settles 1 = .ok (.bipush (-4), 2) := by decide +kernel
theorem dX8_settles_3 : decode cX8_settles 3 = .ok (.putfield 145, 3) := by decide +kernel
theorem dX8_settles_6 : decode cX8_settles 6 = .ok (.aload_n 0, 1) := by decide +kernel
theorem dX8_settles_7 : decode cX8_settles 7 = .ok (.bipush (-4), 2) := by decide +kernel
theorem dX8_settles_9 : decode cX8_settles 9 = .ok (.putfield 148, 3) := by decide +kernel
theorem dX8_settles_12 : decode cX8_settles 12 = .ok (.aload_n 0, 1) := by decide +kernel
theorem dX8_settles_13 : decode cX8_settles 13 = .ok (.bipush (-4), 2) := by decide +kernel
theorem dX8_settles_15 : decode cX8_settles 15 = .ok (.putfield 151, 3) := by decide +kernel
theorem dX8_settles_18 : decode cX8_settles 18 = .ok (.aload_n 0, 1) := by decide +kernel
theorem dX8_settles_19 : decode cX8_settles 19 = .ok (.bipush (-4), 2) := by decide +kernel
theorem dX8_settles_21 : decode cX8_settles 21 = .ok (.putfield 154, 3) := by decide +kernel
theorem dX8_settles_24 : decode cX8_settles 24 = .ok (.iconst 0, 1) := by decide +kernel
theorem dX8_settles_25 : decode cX8_settles 25 = .ok (.istore_n 1, 1) := by decide +kernel
theorem dX8_settles_26 : decode cX8_settles 26 = .ok (.iload_n 1, 1) := by decide +kernel
theorem dX8_settles_27 : decode cX8_settles 27 = .ok (.bipush 114, 2) := by decide +kernel
theorem dX8_settles_29 : decode cX8_settles 29 = .ok (.if_icmp .ge 21, 3) := by decide +kernel
theorem dX8_settles_32 : decode cX8_settles 32 = .ok (.aload_n 0, 1) := by decide +kernel
theorem dX8_settles_33 : decode cX8_settles 33 = .ok (.getfield 49, 3) := by decide +kernel
theorem dX8_settles_36 : decode cX8_settles 36 = .ok (.iload_n 1, 1) := by decide +kernel
theorem dX8_settles_37 : decode cX8_settles 37 = .ok (.aload_n 0, 1) := by decide +kernel
theorem dX8_settles_38 : decode cX8_settles 38 = .ok (.getfield 13, 3) := by decide +kernel
theorem dX8_settles_41 : decode cX8_settles 41 = .ok (.iload_n 1, 1) := by decide +kernel
theorem dX8_settles_42 : decode cX8_settles 42 = .ok (.iaload, 1) := by decide +kernel
theorem dX8_settles_43 : decode cX8_settles 43 = .ok (.iastore, 1) := by decide +kernel
theorem dX8_settles_44 : decode cX8_settles 44 = .ok (.iinc 1 1, 3) := by decide +kernel
theorem dX8_settles_47 : decode cX8_settles 47 = .ok (.goto (-21), 3) := by decide +kernel
theorem dX8_settles_50 : decode cX8_settles 50 = .ok (.iconst 0, 1) := by decide +kernel
theorem dX8_settles_51 : decode cX8_settles 51 = .ok (.istore_n 1, 1) := by decide +kernel
theorem dX8_settles_52 : decode cX8_settles 52 = .ok (.iload_n 1, 1) := by decide +kernel
theorem dX8_settles_53 : decode cX8_settles 53 = .ok (.sipush 300, 3) := by decide +kernel
theorem dX8_settles_56 : decode cX8_settles 56 = .ok (.if_icmp .gt 145, 3) := by decide +kernel
theorem dX8_settles_59 : decode cX8_settles 59 = .ok (.aload_n 0, 1) := by decide +kernel
theorem dX8_settles_60 : decode cX8_settles 60 = .ok (.getfield 145, 3) := by decide +kernel
theorem dX8_settles_63 : decode cX8_settles 63 = .ok (.bipush (-4), 2) := by decide +kernel
theorem dX8_settles_65 : decode cX8_settles 65 = .ok (.if_icmp .ne 136, 3) := by decide +kernel
theorem dX8_settles_68 : decode cX8_settles 68 = .ok (.aload_n 0, 1) := by decide +kernel
theorem dX8_settles_69 : decode cX8_settles 69 = .ok (.getfield 148, 3) := by decide +kernel
theorem dX8_settles_72 : decode cX8_settles 72 = .ok (.bipush (-4), 2) := by decide +kernel
theorem dX8_settles_74 : decode cX8_settles 74 = .ok (.if_icmp .ne 127, 3) := by decide +kernel
theorem dX8_settles_77 : decode cX8_settles 77 = .ok (.aload_n 0, 1) := by decide +kernel
theorem dX8_settles_78 : decode cX8_settles 78 = .ok (.invokevirtual 119, 3) := by decide +kernel
theorem dX8_settles_81 : decode cX8_settles 81 = .ok (.aload_n 0, 1) := by decide +kernel
theorem dX8_settles_82 : decode cX8_settles 82 = .ok (.invokevirtual 157, 3) := by decide +kernel
theorem dX8_settles_85 : decode cX8_settles 85 = .ok (.ifCond .eq 8, 3) := by decide +kernel
theorem dX8_settles_88 : decode cX8_settles 88 = .ok (.aload_n 0, 1) := by decide +kernel
theorem dX8_settles_89 : decode cX8_settles 89 = .ok (.iload_n 1, 1) := by decide +kernel
theorem dX8_settles_90 : decode cX8_settles 90 = .ok (.putfield 145, 3) := by decide +kernel
theorem dX8_settles_93 : decode cX8_settles 93 = .ok (.aload_n 0, 1) := by decide +kernel
theorem dX8_settles_94 : decode cX8_settles 94 = .ok (.getfield 42, 3) := by decide +kernel
theorem dX8_settles_97 : decode cX8_settles 97 = .ok (.iload_n 1, 1) := by decide +kernel
theorem dX8_settles_98 : decode cX8_settles 98 = .ok (.aload_n 0, 1) := by decide +kernel
theorem dX8_settles_99 : decode cX8_settles 99 = .ok (.invokevirtual 161, 3) := by decide +kernel
theorem dX8_settles_102 : decode cX8_settles 102 = .ok (.lastore, 1) := by decide +kernel
theorem dX8_settles_103 : decode cX8_settles 103 = .ok (.aload_n 0, 1) := by decide +kernel
theorem dX8_settles_104 : decode cX8_settles 104 = .ok (.getfield 46, 3) := by decide +kernel
theorem dX8_settles_107 : decode cX8_settles 107 = .ok (.iload_n 1, 1) := by decide +kernel
theorem dX8_settles_108 : decode cX8_settles 108 = .ok (.aload_n 0, 1) := by decide +kernel
theorem dX8_settles_109 : decode cX8_settles 109 = .ok (.getfield 13, 3) := by decide +kernel
theorem dX8_settles_112 : decode cX8_settles 112 = .ok (.iconst 3, 1) := by decide +kernel
theorem dX8_settles_113 : decode cX8_settles 113 = .ok (.iaload, 1) := by decide +kernel
theorem dX8_settles_114 : decode cX8_settles 114 = .ok (.iastore, 1) := by decide +kernel
theorem dX8_settles_115 : decode cX8_settles 115 = .ok (.iconst 0, 1) := by decide +kernel
theorem dX8_settles_116 : decode cX8_settles 116 = .ok (.istore_n 2, 1) := by decide +kernel
theorem dX8_settles_117 : decode cX8_settles 117 = .ok (.iload_n 2, 1) := by decide +kernel
theorem dX8_settles_118 : decode cX8_settles 118 = .ok (.iload_n 1, 1) := by decide +kernel
theorem dX8_settles_119 : decode cX8_settles 119 = .ok (.if_icmp .ge 72, 3) := by decide +kernel
theorem dX8_settles_122 : decode cX8_settles 122 = .ok (.aload_n 0, 1) := by decide +kernel
theorem dX8_settles_123 : decode cX8_settles 123 = .ok (.getfield 145, 3) := by decide +kernel
theorem dX8_settles_126 : decode cX8_settles 126 = .ok (.bipush (-4), 2) := by decide +kernel
theorem dX8_settles_128 : decode cX8_settles 128 = .ok (.if_icmp .ne 63, 3) := by decide +kernel
theorem dX8_settles_131 : decode cX8_settles 131 = .ok (.aload_n 0, 1) := by decide +kernel
theorem dX8_settles_132 : decode cX8_settles 132 = .ok (.getfield 148, 3) := by decide +kernel
theorem dX8_settles_135 : decode cX8_settles 135 = .ok (.bipush (-4), 2) := by decide +kernel
theorem dX8_settles_137 : decode cX8_settles 137 = .ok (.if_icmp .ne 54, 3) := by decide +kernel
theorem dX8_settles_140 : decode cX8_settles 140 = .ok (.aload_n 0, 1) := by decide +kernel
theorem dX8_settles_141 : decode cX8_settles 141 = .ok (.getfield 42, 3) := by decide +kernel
theorem dX8_settles_144 : decode cX8_settles 144 = .ok (.iload_n 2, 1) := by decide +kernel
theorem dX8_settles_145 : decode cX8_settles 145 = .ok (.laload, 1) := by decide +kernel
theorem dX8_settles_146 : decode cX8_settles 146 = .ok (.aload_n 0, 1) := by decide +kernel
theorem dX8_settles_147 : decode cX8_settles 147 = .ok (.getfield 42, 3) := by decide +kernel
theorem dX8_settles_150 : decode cX8_settles 150 = .ok (.iload_n 1, 1) := by decide +kernel
theorem dX8_settles_151 : decode cX8_settles 151 = .ok (.laload, 1) := by decide +kernel
theorem dX8_settles_152 : decode cX8_settles 152 = .ok (.lcmp, 1) := by decide +kernel
theorem dX8_settles_153 : decode cX8_settles 153 = .ok (.ifCond .ne 32, 3) := by decide +kernel
theorem dX8_settles_156 : decode cX8_settles 156 = .ok (.aload_n 0, 1) := by decide +kernel
theorem dX8_settles_157 : decode cX8_settles 157 = .ok (.iload_n 2, 1) := by decide +kernel
theorem dX8_settles_158 : decode cX8_settles 158 = .ok (.putfield 148, 3) := by decide +kernel
theorem dX8_settles_161 : decode cX8_settles 161 = .ok (.aload_n 0, 1) := by decide +kernel
theorem dX8_settles_162 : decode cX8_settles 162 = .ok (.iload_n 1, 1) := by decide +kernel
theorem dX8_settles_163 : decode cX8_settles 163 = .ok (.iload_n 2, 1) := by decide +kernel
theorem dX8_settles_164 : decode cX8_settles 164 = .ok (.isub, 1) := by decide +kernel
theorem dX8_settles_165 : decode cX8_settles 165 = .ok (.putfield 151, 3) := by decide +kernel
theorem dX8_settles_168 : decode cX8_settles 168 = .ok (.aload_n 0, 1) := by decide +kernel
theorem dX8_settles_169 : decode cX8_settles 169 = .ok (.aload_n 0, 1) := by decide +kernel
theorem dX8_settles_170 : decode cX8_settles 170 = .ok (.getfield 46, 3) := by decide +kernel
theorem dX8_settles_173 : decode cX8_settles 173 = .ok (.iload_n 1, 1) := by decide +kernel
theorem dX8_settles_174 : decode cX8_settles 174 = .ok (.iaload, 1) := by decide +kernel
theorem dX8_settles_175 : decode cX8_settles 175 = .ok (.aload_n 0, 1) := by decide +kernel
theorem dX8_settles_176 : decode cX8_settles 176 = .ok (.getfield 46, 3) := by decide +kernel
theorem dX8_settles_179 : decode cX8_settles 179 = .ok (.iload_n 2, 1) := by decide +kernel
theorem dX8_settles_180 : decode cX8_settles 180 = .ok (.iaload, 1) := by decide +kernel
theorem dX8_settles_181 : decode cX8_settles 181 = .ok (.isub, 1) := by decide +kernel
theorem dX8_settles_182 : decode cX8_settles 182 = .ok (.putfield 154, 3) := by decide +kernel
theorem dX8_settles_185 : decode cX8_settles 185 = .ok (.iinc 2 1, 3) := by decide +kernel
theorem dX8_settles_188 : decode cX8_settles 188 = .ok (.goto (-71), 3) := by decide +kernel
theorem dX8_settles_191 : decode cX8_settles 191 = .ok (.aload_n 0, 1) := by decide +kernel
theorem dX8_settles_192 : decode cX8_settles 192 = .ok (.invokevirtual 140, 3) := by decide +kernel
theorem dX8_settles_195 : decode cX8_settles 195 = .ok (.iinc 1 1, 3) := by decide +kernel
theorem dX8_settles_198 : decode cX8_settles 198 = .ok (.goto (-146), 3) := by decide +kernel
theorem dX8_settles_201 : decode cX8_settles 201 = .ok (.iconst 0, 1) := by decide +kernel
theorem dX8_settles_202 : decode cX8_settles 202 = .ok (.istore_n 1, 1) := by decide +kernel
theorem dX8_settles_203 : decode cX8_settles 203 = .ok (.iload_n 1, 1) := by decide +kernel
theorem dX8_settles_204 : decode cX8_settles 204 = .ok (.bipush 114, 2) := by decide +kernel
theorem dX8_settles_206 : decode cX8_settles 206 = .ok (.if_icmp .ge 21, 3) := by decide +kernel
theorem dX8_settles_209 : decode cX8_settles 209 = .ok (.aload_n 0, 1) := by decide +kernel
theorem dX8_settles_210 : decode cX8_settles 210 = .ok (.getfield 13, 3) := by decide +kernel
theorem dX8_settles_213 : decode cX8_settles 213 = .ok (.iload_n 1, 1) := by decide +kernel
theorem dX8_settles_214 : decode cX8_settles 214 = .ok (.aload_n 0, 1) := by decide +kernel
theorem dX8_settles_215 : decode cX8_settles 215 = .ok (.getfield 49, 3) := by decide +kernel
theorem dX8_settles_218 : decode cX8_settles 218 = .ok (.iload_n 1, 1) := by decide +kernel
theorem dX8_settles_219 : decode cX8_settles 219 = .ok (.iaload, 1) := by decide +kernel
theorem dX8_settles_220 : decode cX8_settles 220 = .ok (.iastore, 1) := by decide +kernel
theorem dX8_settles_221 : decode cX8_settles 221 = .ok (.iinc 1 1, 3) := by decide +kernel
theorem dX8_settles_224 : decode cX8_settles 224 = .ok (.goto (-21), 3) := by decide +kernel
theorem dX8_settles_227 : decode cX8_settles 227 = .ok (.return_, 1) := by decide +kernel
set_option maxRecDepth 20000 in
theorem ggX8_settle_X8_in : GoodIn wsX8_settle wsX8_in := goodIn_r _ [9] (by decide +kernel) (by decide +kernel)
set_option maxRecDepth 20000 in
theorem gX8_settle_X8_in : GoodIn wsX8_settle (va_wsS RX8 63 yX8_in wsX8_in) := goodIn_app (goodIn_of _ (by decide +kernel)) ggX8_settle_X8_in
set_option maxRecDepth 20000 in
theorem ggX8_settle_X8_settles : GoodIn wsX8_settle wsX8_settles := goodIn_r _ [13, 2, 3, 4, 5, 14, 15, 16, 17, 18, 19, 20, 8, 21, 22, 23, 24, 25, 26, 27, 28, 29, 30, 31, 32, 33, 34, 35, 36, 37, 6, 7, 9, 38, 39, 40, 41, 42, 43, 44, 45, 46, 47, 48, 49, 50, 51, 52, 53, 54, 55, 56, 57, 58, 59, 60, 61, 62, 63, 64, 65, 66, 67, 68, 69, 70, 71, 72, 73, 74, 75, 76, 77, 78, 79, 80, 81, 82, 83, 84, 85, 86, 87, 88, 89, 90, 91] (by decide +kernel) (by decide +kernel)
set_option maxRecDepth 20000 in
theorem gX8_settle_X8_settles : GoodIn wsX8_settle (wsV RX8 165 RX8 yX8_settles wsX8_settles) := goodIn_app (goodIn_of _ (by decide +kernel)) ggX8_settle_X8_settles
theorem dX8_settle_0 : decode cX8_settle 0 = .ok (.aload_n 0, 1) := by decide +kernel
theorem dX8_settle_1 : decode cX8_settle 1 = .ok (.iconst 0, 1) := by decide +kernel
theorem dX8_settle_2 : decode cX8_settle 2 = .ok (.putfield 59, 3) := by decide +kernel
theorem dX8_settle_5 : decode cX8_settle 5 = .ok (.iload_n 1, 1) := by decide +kernel
theorem dX8_settle_6 : decode cX8_settle 6 = .ok (.iconst 0, 1) := by decide +kernel
theorem dX8_settle_7 : decode cX8_settle 7 = .ok (.iconst 3, 1) := by decide +kernel
theorem dX8_settle_8 : decode cX8_settle 8 = .ok (.invokestatic 63, 3) := by decide +kernel
theorem dX8_settle_11 : decode cX8_settle 11 = .ok (.ifCond .ne 5, 3) := by decide +kernel
theorem dX8_settle_14 : decode cX8_settle 14 = .ok (.iconst (-1), 1) := by decide +kernel
theorem dX8_settle_15 : decode cX8_settle 15 = .ok (.ireturn, 1) := by decide +kernel
theorem dX8_settle_16 : decode cX8_settle 16 = .ok (.aload_n 0, 1) := by decide +kernel
theorem dX8_settle_17 : decode cX8_settle 17 = .ok (.invokevirtual 165, 3) := by decide +kernel
theorem dX8_settle_20 : decode cX8_settle 20 = .ok (.iload_n 1, 1) := by decide +kernel
theorem dX8_settle_21 : decode cX8_settle 21 = .ok (.ifCond .ne 10, 3) := by decide +kernel
theorem dX8_settle_24 : decode cX8_settle 24 = .ok (.aload_n 0, 1) := by decide +kernel
theorem dX8_settle_25 : decode cX8_settle 25 = .ok (.getfield 145, 3) := by decide +kernel
theorem dX8_settle_28 : decode cX8_settle 28 = .ok (.goto 31, 3) := by decide +kernel
theorem dX8_settle_31 : decode cX8_settle 31 = .ok (.iload_n 1, 1) := by decide +kernel
theorem dX8_settle_32 : decode cX8_settle 32 = .ok (.iconst 1, 1) := by decide +kernel
theorem dX8_settle_33 : decode cX8_settle 33 = .ok (.if_icmp .ne 10, 3) := by decide +kernel
theorem dX8_settle_36 : decode cX8_settle 36 = .ok (.aload_n 0, 1) := by decide +kernel
theorem dX8_settle_37 : decode cX8_settle 37 = .ok (.getfield 148, 3) := by decide +kernel
theorem dX8_settle_40 : decode cX8_settle 40 = .ok (.goto 19, 3) := by decide +kernel
theorem dX8_settle_43 : decode cX8_settle 43 = .ok (.iload_n 1, 1) := by decide +kernel
theorem dX8_settle_44 : decode cX8_settle 44 = .ok (.iconst 2, 1) := by decide +kernel
theorem dX8_settle_45 : decode cX8_settle 45 = .ok (.if_icmp .ne 10, 3) := by decide +kernel
theorem dX8_settle_48 : decode cX8_settle 48 = .ok (.aload_n 0, 1) := by decide +kernel
theorem dX8_settle_49 : decode cX8_settle 49 = .ok (.getfield 151, 3) := by decide +kernel
theorem dX8_settle_52 : decode cX8_settle 52 = .ok (.goto 7, 3) := by decide +kernel
theorem dX8_settle_55 : decode cX8_settle 55 = .ok (.aload_n 0, 1) := by decide +kernel
theorem dX8_settle_56 : decode cX8_settle 56 = .ok (.getfield 154, 3) := by decide +kernel
theorem dX8_settle_59 : decode cX8_settle 59 = .ok (.ireturn, 1) := by decide +kernel
set_option maxRecDepth 20000 in
theorem ggX8_nextTaps_X8_of : GoodIn wsX8_nextTaps wsX8_of := goodIn_r _ [6, 1, 11, 12, 13, 14, 15, 16, 17, 18, 19, 20, 21, 22, 23, 24, 25, 26, 27, 28, 29, 30, 31, 32, 33, 34] (by decide +kernel) (by decide +kernel)
set_option maxRecDepth 20000 in
theorem gX8_nextTaps_X8_of : GoodIn wsX8_nextTaps (wsV RX8 106 RX8 yX8_of wsX8_of) := goodIn_app (goodIn_of _ (by decide +kernel)) ggX8_nextTaps_X8_of
set_option maxRecDepth 20000 in
theorem ggX8_nextTaps_X8_puts : GoodIn wsX8_nextTaps wsX8_puts := goodIn_r _ [10, 1, 11, 12, 13, 14, 15, 16, 17, 18, 19, 20, 21, 22, 23, 24, 25, 26, 27, 28, 29, 30, 31, 32, 33, 34] (by decide +kernel) (by decide +kernel)
set_option maxRecDepth 20000 in
theorem gX8_nextTaps_X8_puts : GoodIn wsX8_nextTaps (wsV RX8 115 RX8 yX8_puts wsX8_puts) := goodIn_app (goodIn_of _ (by decide +kernel)) ggX8_nextTaps_X8_puts
theorem dX8_nextTaps_0 : decode cX8_nextTaps 0 = .ok (.aload_n 0, 1) := by decide +kernel
theorem dX8_nextTaps_1 : decode cX8_nextTaps 1 = .ok (.getfield 13, 3) := by decide +kernel
theorem dX8_nextTaps_4 : decode cX8_nextTaps 4 = .ok (.iconst 0, 1) := by decide +kernel
theorem dX8_nextTaps_5 : decode cX8_nextTaps 5 = .ok (.iaload, 1) := by decide +kernel
theorem dX8_nextTaps_6 : decode cX8_nextTaps 6 = .ok (.iconst 1, 1) := by decide +kernel
theorem dX8_nextTaps_7 : decode cX8_nextTaps 7 = .ok (.isub, 1) := by decide +kernel
theorem dX8_nextTaps_8 : decode cX8_nextTaps 8 = .ok (.istore_n 1, 1) := by decide +kernel
theorem dX8_nextTaps_9 : decode cX8_nextTaps 9 = .ok (.iload_n 1, 1) := by decide +kernel
theorem dX8_nextTaps_10 : decode cX8_nextTaps 10 = .ok (.ifCond .lt 57, 3) := by decide +kernel
theorem dX8_nextTaps_13 : decode cX8_nextTaps 13 = .ok (.aload_n 0, 1) := by decide +kernel
theorem dX8_nextTaps_14 : decode cX8_nextTaps 14 = .ok (.iload_n 1, 1) := by decide +kernel
theorem dX8_nextTaps_15 : decode cX8_nextTaps 15 = .ok (.bipush 8, 2) := by decide +kernel
theorem dX8_nextTaps_17 : decode cX8_nextTaps 17 = .ok (.invokevirtual 106, 3) := by decide +kernel
theorem dX8_nextTaps_20 : decode cX8_nextTaps 20 = .ok (.ifCond .ne 41, 3) := by decide +kernel
theorem dX8_nextTaps_23 : decode cX8_nextTaps 23 = .ok (.aload_n 0, 1) := by decide +kernel
theorem dX8_nextTaps_24 : decode cX8_nextTaps 24 = .ok (.iload_n 1, 1) := by decide +kernel
theorem dX8_nextTaps_25 : decode cX8_nextTaps 25 = .ok (.bipush 7, 2) := by decide +kernel
theorem dX8_nextTaps_27 : decode cX8_nextTaps 27 = .ok (.invokevirtual 106, 3) := by decide +kernel
theorem dX8_nextTaps_30 : decode cX8_nextTaps 30 = .ok (.iconst 5, 1) := by decide +kernel
theorem dX8_nextTaps_31 : decode cX8_nextTaps 31 = .ok (.if_icmp .ge 21, 3) := by decide +kernel
theorem dX8_nextTaps_34 : decode cX8_nextTaps 34 = .ok (.aload_n 0, 1) := by decide +kernel
theorem dX8_nextTaps_35 : decode cX8_nextTaps 35 = .ok (.iload_n 1, 1) := by decide +kernel
theorem dX8_nextTaps_36 : decode cX8_nextTaps 36 = .ok (.bipush 7, 2) := by decide +kernel
theorem dX8_nextTaps_38 : decode cX8_nextTaps 38 = .ok (.aload_n 0, 1) := by decide +kernel
theorem dX8_nextTaps_39 : decode cX8_nextTaps 39 = .ok (.iload_n 1, 1) := by decide +kernel
theorem dX8_nextTaps_40 : decode cX8_nextTaps 40 = .ok (.bipush 7, 2) := by decide +kernel
theorem dX8_nextTaps_42 : decode cX8_nextTaps 42 = .ok (.invokevirtual 106, 3) := by decide +kernel
theorem dX8_nextTaps_45 : decode cX8_nextTaps 45 = .ok (.iconst 1, 1) := by decide +kernel
theorem dX8_nextTaps_46 : decode cX8_nextTaps 46 = .ok (.iadd, 1) := by decide +kernel
theorem dX8_nextTaps_47 : decode cX8_nextTaps 47 = .ok (.invokevirtual 115, 3) := by decide +kernel
theorem dX8_nextTaps_50 : decode cX8_nextTaps 50 = .ok (.iconst 1, 1) := by decide +kernel
theorem dX8_nextTaps_51 : decode cX8_nextTaps 51 = .ok (.ireturn, 1) := by decide +kernel
theorem dX8_nextTaps_52 : decode cX8_nextTaps 52 = .ok (.aload_n 0, 1) := by decide +kernel
theorem dX8_nextTaps_53 : decode cX8_nextTaps 53 = .ok (.iload_n 1, 1) := by decide +kernel
theorem dX8_nextTaps_54 : decode cX8_nextTaps 54 = .ok (.bipush 7, 2) := by decide +kernel
theorem dX8_nextTaps_56 : decode cX8_nextTaps 56 = .ok (.bipush (-5), 2) := by decide +kernel
theorem dX8_nextTaps_58 : decode cX8_nextTaps 58 = .ok (.invokevirtual 115, 3) := by decide +kernel
theorem dX8_nextTaps_61 : decode cX8_nextTaps 61 = .ok (.iinc 1 (-1), 3) := by decide +kernel
theorem dX8_nextTaps_64 : decode cX8_nextTaps 64 = .ok (.goto (-55), 3) := by decide +kernel
theorem dX8_nextTaps_67 : decode cX8_nextTaps 67 = .ok (.iconst 0, 1) := by decide +kernel
theorem dX8_nextTaps_68 : decode cX8_nextTaps 68 = .ok (.ireturn, 1) := by decide +kernel
set_option maxRecDepth 20000 in
theorem ggX8_findsBest_X8_of : GoodIn wsX8_findsBest wsX8_of := goodIn_r _ [9, 2, 41, 42, 43, 44, 45, 46, 47, 48, 49, 50, 51, 52, 53, 54, 55, 56, 57, 58, 59, 60, 61, 62, 63, 64] (by decide +kernel) (by decide +kernel)
set_option maxRecDepth 20000 in
theorem gX8_findsBest_X8_of : GoodIn wsX8_findsBest (wsV RX8 106 RX8 yX8_of wsX8_of) := goodIn_app (goodIn_of _ (by decide +kernel)) ggX8_findsBest_X8_of
set_option maxRecDepth 20000 in
theorem ggX8_findsBest_X8_puts : GoodIn wsX8_findsBest wsX8_puts := goodIn_r _ [13, 2, 41, 42, 43, 44, 45, 46, 47, 48, 49, 50, 51, 52, 53, 54, 55, 56, 57, 58, 59, 60, 61, 62, 63, 64] (by decide +kernel) (by decide +kernel)
set_option maxRecDepth 20000 in
theorem gX8_findsBest_X8_puts : GoodIn wsX8_findsBest (wsV RX8 115 RX8 yX8_puts wsX8_puts) := goodIn_app (goodIn_of _ (by decide +kernel)) ggX8_findsBest_X8_puts
set_option maxRecDepth 20000 in
theorem ggX8_findsBest_X8_lays : GoodIn wsX8_findsBest wsX8_lays := goodIn_r _ [17, 2, 18, 19, 20, 21, 22, 5, 6, 7, 8, 9, 23, 24, 25, 26, 27, 28, 29, 30, 31, 32, 41, 42, 43, 44, 45, 46, 47, 48, 49, 50, 51, 52, 53, 54, 55, 56, 57, 58, 59, 60, 61, 62, 63, 64] (by decide +kernel) (by decide +kernel)
set_option maxRecDepth 20000 in
theorem gX8_findsBest_X8_lays : GoodIn wsX8_findsBest (wsV RX8 119 RX8 yX8_lays wsX8_lays) := goodIn_app (goodIn_of _ (by decide +kernel)) ggX8_findsBest_X8_lays
set_option maxRecDepth 20000 in
theorem ggX8_findsBest_X8_offOf : GoodIn wsX8_findsBest wsX8_offOf := goodIn_r _ [36, 2, 20, 5, 6, 7, 8, 9, 41, 42, 43, 44, 45, 46, 47, 48, 49, 50, 51, 52, 53, 54, 55, 56, 57, 58, 59, 60, 61, 62, 63, 64] (by decide +kernel) (by decide +kernel)
set_option maxRecDepth 20000 in
theorem gX8_findsBest_X8_offOf : GoodIn wsX8_findsBest (wsV RX8 171 RX8 yX8_offOf wsX8_offOf) := goodIn_app (goodIn_of _ (by decide +kernel)) ggX8_findsBest_X8_offOf
set_option maxRecDepth 20000 in
theorem ggX8_findsBest_X8_nextTaps : GoodIn wsX8_findsBest wsX8_nextTaps := goodIn_r _ [40, 2, 5, 6, 7, 8, 9, 10, 11, 12, 13, 41, 42, 43, 44, 45, 46, 47, 48, 49, 50, 51, 52, 53, 54, 55, 56, 57, 58, 59, 60, 61, 62, 63, 64] (by decide +kernel) (by decide +kernel)
set_option maxRecDepth 20000 in
theorem gX8_findsBest_X8_nextTaps : GoodIn wsX8_findsBest (wsV RX8 174 RX8 yX8_nextTaps wsX8_nextTaps) := goodIn_app (goodIn_of _ (by decide +kernel)) ggX8_findsBest_X8_nextTaps
theorem dX8_findsBest_0 : decode cX8_findsBest 0 = .ok (.iconst 0, 1) := by decide +kernel
theorem dX8_findsBest_1 : decode cX8_findsBest 1 = .ok (.istore_n 1, 1) := by decide +kernel
theorem dX8_findsBest_2 : decode cX8_findsBest 2 = .ok (.iload_n 1, 1) := by decide +kernel
theorem dX8_findsBest_3 : decode cX8_findsBest 3 = .ok (.bipush 114, 2) := by decide +kernel
theorem dX8_findsBest_5 : decode cX8_findsBest 5 = .ok (.if_icmp .ge 21, 3) := by decide +kernel
theorem dX8_findsBest_8 : decode cX8_findsBest 8 = .ok (.aload_n 0, 1) := by decide +kernel
theorem dX8_findsBest_9 : decode cX8_findsBest 9 = .ok (.getfield 49, 3) := by decide +kernel
theorem dX8_findsBest_12 : decode cX8_findsBest 12 = .ok (.iload_n 1, 1) := by decide +kernel
theorem dX8_findsBest_13 : decode cX8_findsBest 13 = .ok (.aload_n 0, 1) := by decide +kernel
theorem dX8_findsBest_14 : decode cX8_findsBest 14 = .ok (.getfield 13, 3) := by decide +kernel
theorem dX8_findsBest_17 : decode cX8_findsBest 17 = .ok (.iload_n 1, 1) := by decide +kernel
theorem dX8_findsBest_18 : decode cX8_findsBest 18 = .ok (.iaload, 1) := by decide +kernel
theorem dX8_findsBest_19 : decode cX8_findsBest 19 = .ok (.iastore, 1) := by decide +kernel
theorem dX8_findsBest_20 : decode cX8_findsBest 20 = .ok (.iinc 1 1, 3) := by decide +kernel
theorem dX8_findsBest_23 : decode cX8_findsBest 23 = .ok (.goto (-21), 3) := by decide +kernel
theorem dX8_findsBest_26 : decode cX8_findsBest 26 = .ok (.iconst 0, 1) := by decide +kernel
theorem dX8_findsBest_27 : decode cX8_findsBest 27 = .ok (.istore_n 1, 1) := by decide +kernel
theorem dX8_findsBest_28 : decode cX8_findsBest 28 = .ok (.iload_n 1, 1) := by decide +kernel
theorem dX8_findsBest_29 : decode cX8_findsBest 29 = .ok (.aload_n 0, 1) := by decide +kernel
theorem dX8_findsBest_30 : decode cX8_findsBest 30 = .ok (.getfield 13, 3) := by decide +kernel
theorem dX8_findsBest_33 : decode cX8_findsBest 33 = .ok (.iconst 0, 1) := by decide +kernel
theorem dX8_findsBest_34 : decode cX8_findsBest 34 = .ok (.iaload, 1) := by decide +kernel
theorem dX8_findsBest_35 : decode cX8_findsBest 35 = .ok (.if_icmp .ge 28, 3) := by decide +kernel
theorem dX8_findsBest_38 : decode cX8_findsBest 38 = .ok (.aload_n 0, 1) := by decide +kernel
theorem dX8_findsBest_39 : decode cX8_findsBest 39 = .ok (.iload_n 1, 1) := by decide +kernel
theorem dX8_findsBest_40 : decode cX8_findsBest 40 = .ok (.bipush 8, 2) := by decide +kernel
theorem dX8_findsBest_42 : decode cX8_findsBest 42 = .ok (.invokevirtual 106, 3) := by decide +kernel
theorem dX8_findsBest_45 : decode cX8_findsBest 45 = .ok (.ifCond .ne 12, 3) := by decide +kernel
theorem dX8_findsBest_48 : decode cX8_findsBest 48 = .ok (.aload_n 0, 1) := by decide +kernel
theorem dX8_findsBest_49 : decode cX8_findsBest 49 = .ok (.iload_n 1, 1) := by decide +kernel
theorem dX8_findsBest_50 : decode cX8_findsBest 50 = .ok (.bipush 7, 2) := by decide +kernel
theorem dX8_findsBest_52 : decode cX8_findsBest 52 = .ok (.bipush (-5), 2) := by decide +kernel
theorem dX8_findsBest_54 : decode cX8_findsBest 54 = .ok (.invokevirtual 115, 3) := by decide +kernel
theorem dX8_findsBest_57 : decode cX8_findsBest 57 = .ok (.iinc 1 1, 3) := by decide +kernel
theorem dX8_findsBest_60 : decode cX8_findsBest 60 = .ok (.goto (-32), 3) := by decide +kernel
theorem dX8_findsBest_63 : decode cX8_findsBest 63 = .ok (.aload_n 0, 1) := by decide +kernel
theorem dX8_findsBest_64 : decode cX8_findsBest 64 = .ok (.bipush (-4), 2) := by decide +kernel
theorem dX8_findsBest_66 : decode cX8_findsBest 66 = .ok (.putfield 168, 3) := by decide +kernel
theorem dX8_findsBest_69 : decode cX8_findsBest 69 = .ok (.iconst 1, 1) := by decide +kernel
theorem dX8_findsBest_70 : decode cX8_findsBest 70 = .ok (.istore_n 1, 1) := by decide +kernel
theorem dX8_findsBest_71 : decode cX8_findsBest 71 = .ok (.iload_n 1, 1) := by decide +kernel
theorem dX8_findsBest_72 : decode cX8_findsBest 72 = .ok (.ifCond .eq 74, 3) := by decide +kernel
theorem dX8_findsBest_75 : decode cX8_findsBest 75 = .ok (.aload_n 0, 1) := by decide +kernel
theorem dX8_findsBest_76 : decode cX8_findsBest 76 = .ok (.invokevirtual 119, 3) := by decide +kernel
theorem dX8_findsBest_79 : decode cX8_findsBest 79 = .ok (.aload_n 0, 1) := by decide +kernel
theorem dX8_findsBest_80 : decode cX8_findsBest 80 = .ok (.getfield 168, 3) := by decide +kernel
theorem dX8_findsBest_83 : decode cX8_findsBest 83 = .ok (.bipush (-4), 2) := by decide +kernel
theorem dX8_findsBest_85 : decode cX8_findsBest 85 = .ok (.if_icmp .eq 14, 3) := by decide +kernel
theorem dX8_findsBest_88 : decode cX8_findsBest 88 = .ok (.aload_n 0, 1) := by decide +kernel
theorem dX8_findsBest_89 : decode cX8_findsBest 89 = .ok (.invokevirtual 171, 3) := by decide +kernel
theorem dX8_findsBest_92 : decode cX8_findsBest 92 = .ok (.aload_n 0, 1) := by decide +kernel
theorem dX8_findsBest_93 : decode cX8_findsBest 93 = .ok (.getfield 168, 3) := by decide +kernel
theorem dX8_findsBest_96 : decode cX8_findsBest 96 = .ok (.if_icmp .ge 42, 3) := by decide +kernel
theorem dX8_findsBest_99 : decode cX8_findsBest 99 = .ok (.aload_n 0, 1) := by decide +kernel
theorem dX8_findsBest_100 : decode cX8_findsBest 100 = .ok (.aload_n 0, 1) := by decide +kernel
theorem dX8_findsBest_101 : decode cX8_findsBest 101 = .ok (.invokevirtual 171, 3) := by decide +kernel
theorem dX8_findsBest_104 : decode cX8_findsBest 104 = .ok (.putfield 168, 3) := by decide +kernel
theorem dX8_findsBest_107 : decode cX8_findsBest 107 = .ok (.iconst 0, 1) := by decide +kernel
theorem dX8_findsBest_108 : decode cX8_findsBest 108 = .ok (.istore_n 2, 1) := by decide +kernel
theorem dX8_findsBest_109 : decode cX8_findsBest 109 = .ok (.iload_n 2, 1) := by decide +kernel
theorem dX8_findsBest_110 : decode cX8_findsBest 110 = .ok (.aload_n 0, 1) := by decide +kernel
theorem dX8_findsBest_111 : decode cX8_findsBest 111 = .ok (.getfield 13, 3) := by decide +kernel
theorem dX8_findsBest_114 : decode cX8_findsBest 114 = .ok (.iconst 0, 1) := by decide +kernel
theorem dX8_findsBest_115 : decode cX8_findsBest 115 = .ok (.iaload, 1) := by decide +kernel
theorem dX8_findsBest_116 : decode cX8_findsBest 116 = .ok (.if_icmp .ge 22, 3) := by decide +kernel
theorem dX8_findsBest_119 : decode cX8_findsBest 119 = .ok (.aload_n 0, 1) := by decide +kernel
theorem dX8_findsBest_120 : decode cX8_findsBest 120 = .ok (.getfield 52, 3) := by decide +kernel
theorem dX8_findsBest_123 : decode cX8_findsBest 123 = .ok (.iload_n 2, 1) := by decide +kernel
theorem dX8_findsBest_124 : decode cX8_findsBest 124 = .ok (.aload_n 0, 1) := by decide +kernel
theorem dX8_findsBest_125 : decode cX8_findsBest 125 = .ok (.iload_n 2, 1) := by decide +kernel
theorem dX8_findsBest_126 : decode cX8_findsBest 126 = .ok (.bipush 7, 2) := by decide +kernel
theorem dX8_findsBest_128 : decode cX8_findsBest 128 = .ok (.invokevirtual 106, 3) := by decide +kernel
theorem dX8_findsBest_131 : decode cX8_findsBest 131 = .ok (.iastore, 1) := by decide +kernel
theorem dX8_findsBest_132 : decode cX8_findsBest 132 = .ok (.iinc 2 1, 3) := by decide +kernel
theorem dX8_findsBest_135 : decode cX8_findsBest 135 = .ok (.goto (-26), 3) := by decide +kernel
theorem dX8_findsBest_138 : decode cX8_findsBest 138 = .ok (.aload_n 0, 1) := by decide +kernel
theorem dX8_findsBest_139 : decode cX8_findsBest 139 = .ok (.invokevirtual 174, 3) := by decide +kernel
theorem dX8_findsBest_142 : decode cX8_findsBest 142 = .ok (.istore_n 1, 1) := by decide +kernel
theorem dX8_findsBest_143 : decode cX8_findsBest 143 = .ok (.goto (-72), 3) := by decide +kernel
theorem dX8_findsBest_146 : decode cX8_findsBest 146 = .ok (.iconst 0, 1) := by decide +kernel
theorem dX8_findsBest_147 : decode cX8_findsBest 147 = .ok (.istore_n 2, 1) := by decide +kernel
theorem dX8_findsBest_148 : decode cX8_findsBest 148 = .ok (.iload_n 2, 1) := by decide +kernel
theorem dX8_findsBest_149 : decode cX8_findsBest 149 = .ok (.bipush 114, 2) := by decide +kernel
theorem dX8_findsBest_151 : decode cX8_findsBest 151 = .ok (.if_icmp .ge 21, 3) := by decide +kernel
theorem dX8_findsBest_154 : decode cX8_findsBest 154 = .ok (.aload_n 0, 1) := by decide +kernel
theorem dX8_findsBest_155 : decode cX8_findsBest 155 = .ok (.getfield 13, 3) := by decide +kernel
theorem dX8_findsBest_158 : decode cX8_findsBest 158 = .ok (.iload_n 2, 1) := by decide +kernel
theorem dX8_findsBest_159 : decode cX8_findsBest 159 = .ok (.aload_n 0, 1) := by decide +kernel
theorem dX8_findsBest_160 : decode cX8_findsBest 160 = .ok (.getfield 49, 3) := by decide +kernel
theorem dX8_findsBest_163 : decode cX8_findsBest 163 = .ok (.iload_n 2, 1) := by decide +kernel
theorem dX8_findsBest_164 : decode cX8_findsBest 164 = .ok (.iaload, 1) := by decide +kernel
theorem dX8_findsBest_165 : decode cX8_findsBest 165 = .ok (.iastore, 1) := by decide +kernel
theorem dX8_findsBest_166 : decode cX8_findsBest 166 = .ok (.iinc 2 1, 3) := by decide +kernel
theorem dX8_findsBest_169 : decode cX8_findsBest 169 = .ok (.goto (-21), 3) := by decide +kernel
theorem dX8_findsBest_172 : decode cX8_findsBest 172 = .ok (.return_, 1) := by decide +kernel
set_option maxRecDepth 20000 in
theorem ggX8_best_X8_isStage : GoodIn wsX8_best wsX8_isStage := goodIn_r _ [8, 9, 10, 11, 7, 12, 50, 51, 52, 53, 54, 55, 56, 57, 58, 59, 60, 61, 62, 63, 64, 65, 66, 67, 68, 69, 70, 71, 72, 73] (by decide +kernel) (by decide +kernel)
set_option maxRecDepth 20000 in
theorem gX8_best_X8_isStage : GoodIn wsX8_best (wsV RX8 134 RX8 yX8_isStage wsX8_isStage) := goodIn_app (goodIn_of _ (by decide +kernel)) ggX8_best_X8_isStage
set_option maxRecDepth 20000 in
theorem ggX8_best_X8_findsBest : GoodIn wsX8_best wsX8_findsBest := goodIn_r _ [16, 17, 9, 2, 3, 18, 19, 20, 7, 21, 22, 23, 24, 25, 26, 27, 28, 29, 30, 31, 32, 33, 34, 35, 36, 37, 38, 39, 40, 41, 10, 11, 12, 42, 43, 44, 45, 46, 47, 48, 49, 50, 51, 52, 53, 54, 55, 56, 57, 58, 59, 60, 61, 62, 63, 64, 65, 66, 67, 68, 69, 70, 71, 72, 73] (by decide +kernel) (by decide +kernel)
set_option maxRecDepth 20000 in
theorem gX8_best_X8_findsBest : GoodIn wsX8_best (wsV RX8 177 RX8 yX8_findsBest wsX8_findsBest) := goodIn_app (goodIn_of _ (by decide +kernel)) ggX8_best_X8_findsBest
theorem dX8_best_0 : decode cX8_best 0 = .ok (.aload_n 0, 1) := by decide +kernel
theorem dX8_best_1 : decode cX8_best 1 = .ok (.iconst 0, 1) := by decide +kernel
theorem dX8_best_2 : decode cX8_best 2 = .ok (.putfield 59, 3) := by decide +kernel
theorem dX8_best_5 : decode cX8_best 5 = .ok (.iload_n 1, 1) := by decide +kernel
theorem dX8_best_6 : decode cX8_best 6 = .ok (.iconst (-1), 1) := by decide +kernel
theorem dX8_best_7 : decode cX8_best 7 = .ok (.if_icmp .eq 13, 3) := by decide +kernel
theorem dX8_best_10 : decode cX8_best 10 = .ok (.aload_n 0, 1) := by decide +kernel
theorem dX8_best_11 : decode cX8_best 11 = .ok (.iload_n 1, 1) := by decide +kernel
theorem dX8_best_12 : decode cX8_best 12 = .ok (.invokevirtual 134, 3) := by decide +kernel
theorem dX8_best_15 : decode cX8_best 15 = .ok (.ifCond .ne 5, 3) := by decide +kernel
theorem dX8_best_18 : decode cX8_best 18 = .ok (.iconst (-1), 1) := by decide +kernel
theorem dX8_best_19 : decode cX8_best 19 = .ok (.ireturn, 1) := by decide +kernel
theorem dX8_best_20 : decode cX8_best 20 = .ok (.aload_n 0, 1) := by decide +kernel
theorem dX8_best_21 : decode cX8_best 21 = .ok (.invokevirtual 177, 3) := by decide +kernel
theorem dX8_best_24 : decode cX8_best 24 = .ok (.iload_n 1, 1) := by decide +kernel
theorem dX8_best_25 : decode cX8_best 25 = .ok (.ifCond .ge 10, 3) := by decide +kernel
theorem dX8_best_28 : decode cX8_best 28 = .ok (.aload_n 0, 1) := by decide +kernel
theorem dX8_best_29 : decode cX8_best 29 = .ok (.getfield 168, 3) := by decide +kernel
theorem dX8_best_32 : decode cX8_best 32 = .ok (.goto 13, 3) := by decide +kernel
theorem dX8_best_35 : decode cX8_best 35 = .ok (.aload_n 0, 1) := by decide +kernel
theorem dX8_best_36 : decode cX8_best 36 = .ok (.getfield 52, 3) := by decide +kernel
theorem dX8_best_39 : decode cX8_best 39 = .ok (.iload_n 1, 1) := by decide +kernel
theorem dX8_best_40 : decode cX8_best 40 = .ok (.iaload, 1) := by decide +kernel
theorem dX8_best_41 : decode cX8_best 41 = .ok (.sipush 1000, 3) := by decide +kernel
theorem dX8_best_44 : decode cX8_best 44 = .ok (.iadd, 1) := by decide +kernel
theorem dX8_best_45 : decode cX8_best 45 = .ok (.ireturn, 1) := by decide +kernel
set_option maxRecDepth 20000 in
theorem ggX8_ratio_X8_isStage : GoodIn wsX8_ratio wsX8_isStage := goodIn_r _ [8, 9, 10, 11, 7, 12, 17, 18, 19, 20, 21, 22, 23, 24, 25, 26, 27, 28, 29, 30, 31, 32, 33, 34, 35, 36, 37, 38, 39, 40] (by decide +kernel) (by decide +kernel)
set_option maxRecDepth 20000 in
theorem gX8_ratio_X8_isStage : GoodIn wsX8_ratio (wsV RX8 134 RX8 yX8_isStage wsX8_isStage) := goodIn_app (goodIn_of _ (by decide +kernel)) ggX8_ratio_X8_isStage
set_option maxRecDepth 20000 in
theorem ggX8_ratio_X8_in : GoodIn wsX8_ratio wsX8_in := goodIn_r _ [12] (by decide +kernel) (by decide +kernel)
set_option maxRecDepth 20000 in
theorem gX8_ratio_X8_in : GoodIn wsX8_ratio (va_wsS RX8 63 yX8_in wsX8_in) := goodIn_app (goodIn_of _ (by decide +kernel)) ggX8_ratio_X8_in
set_option maxRecDepth 20000 in
theorem ggX8_ratio_X8_of : GoodIn wsX8_ratio wsX8_of := goodIn_r _ [16, 9, 17, 18, 19, 20, 21, 22, 23, 24, 25, 26, 27, 28, 29, 30, 31, 32, 33, 34, 35, 36, 37, 38, 39, 40] (by decide +kernel) (by decide +kernel)
set_option maxRecDepth 20000 in
theorem gX8_ratio_X8_of : GoodIn wsX8_ratio (wsV RX8 106 RX8 yX8_of wsX8_of) := goodIn_app (goodIn_of _ (by decide +kernel)) ggX8_ratio_X8_of
theorem dX8_ratio_0 : decode cX8_ratio 0 = .ok (.aload_n 0, 1) := by decide +kernel
theorem dX8_ratio_1 : decode cX8_ratio 1 = .ok (.iconst 0, 1) := by decide +kernel
theorem dX8_ratio_2 : decode cX8_ratio 2 = .ok (.putfield 59, 3) := by decide +kernel
theorem dX8_ratio_5 : decode cX8_ratio 5 = .ok (.aload_n 0, 1) := by decide +kernel
theorem dX8_ratio_6 : decode cX8_ratio 6 = .ok (.iload_n 1, 1) := by decide +kernel
theorem dX8_ratio_7 : decode cX8_ratio 7 = .ok (.invokevirtual 134, 3) := by decide +kernel
theorem dX8_ratio_10 : decode cX8_ratio 10 = .ok (.ifCond .eq 12, 3) := by decide +kernel
theorem dX8_ratio_13 : decode cX8_ratio 13 = .ok (.iload_n 2, 1) := by decide +kernel
theorem dX8_ratio_14 : decode cX8_ratio 14 = .ok (.iconst 0, 1) := by decide +kernel
theorem dX8_ratio_15 : decode cX8_ratio 15 = .ok (.iconst 1, 1) := by decide +kernel
theorem dX8_ratio_16 : decode cX8_ratio 16 = .ok (.invokestatic 63, 3) := by decide +kernel
theorem dX8_ratio_19 : decode cX8_ratio 19 = .ok (.ifCond .ne 7, 3) := by decide +kernel
theorem dX8_ratio_22 : decode cX8_ratio 22 = .ok (.ldc2_w 180, 3) := by decide +kernel
theorem dX8_ratio_25 : decode cX8_ratio 25 = .ok (.lreturn, 1) := by decide +kernel
theorem dX8_ratio_26 : decode cX8_ratio 26 = .ok (.lconst 1, 1) := by decide +kernel
theorem dX8_ratio_27 : decode cX8_ratio 27 = .ok (.lstore_n 3, 1) := by decide +kernel
theorem dX8_ratio_28 : decode cX8_ratio 28 = .ok (.lconst 1, 1) := by decide +kernel
theorem dX8_ratio_29 : decode cX8_ratio 29 = .ok (.lstore 5, 2) := by decide +kernel
theorem dX8_ratio_31 : decode cX8_ratio 31 = .ok (.iconst 0, 1) := by decide +kernel
theorem dX8_ratio_32 : decode cX8_ratio 32 = .ok (.istore 7, 2) := by decide +kernel
theorem dX8_ratio_34 : decode cX8_ratio 34 = .ok (.iload 7, 2) := by decide +kernel
theorem dX8_ratio_36 : decode cX8_ratio 36 = .ok (.iload_n 1, 1) := by decide +kernel
theorem dX8_ratio_37 : decode cX8_ratio 37 = .ok (.if_icmp .gt 41, 3) := by decide +kernel
theorem dX8_ratio_40 : decode cX8_ratio 40 = .ok (.lload_n 3, 1) := by decide +kernel
theorem dX8_ratio_41 : decode cX8_ratio 41 = .ok (.sipush 1000, 3) := by decide +kernel
theorem dX8_ratio_44 : decode cX8_ratio 44 = .ok (.aload_n 0, 1) := by decide +kernel
theorem dX8_ratio_45 : decode cX8_ratio 45 = .ok (.iload 7, 2) := by decide +kernel
theorem dX8_ratio_47 : decode cX8_ratio 47 = .ok (.bipush 7, 2) := by decide +kernel
theorem dX8_ratio_49 : decode cX8_ratio 49 = .ok (.invokevirtual 106, 3) := by decide +kernel
theorem dX8_ratio_52 : decode cX8_ratio 52 = .ok (.aload_n 0, 1) := by decide +kernel
theorem dX8_ratio_53 : decode cX8_ratio 53 = .ok (.iload 7, 2) := by decide +kernel
theorem dX8_ratio_55 : decode cX8_ratio 55 = .ok (.iconst 0, 1) := by decide +kernel
theorem dX8_ratio_56 : decode cX8_ratio 56 = .ok (.invokevirtual 106, 3) := by decide +kernel
theorem dX8_ratio_59 : decode cX8_ratio 59 = .ok (.imul, 1) := by decide +kernel
theorem dX8_ratio_60 : decode cX8_ratio 60 = .ok (.iadd, 1) := by decide +kernel
theorem dX8_ratio_61 : decode cX8_ratio 61 = .ok (.i2l, 1) := by decide +kernel
theorem dX8_ratio_62 : decode cX8_ratio 62 = .ok (.lmul, 1) := by decide +kernel
theorem dX8_ratio_63 : decode cX8_ratio 63 = .ok (.lstore_n 3, 1) := by decide +kernel
theorem dX8_ratio_64 : decode cX8_ratio 64 = .ok (.lload 5, 2) := by decide +kernel
theorem dX8_ratio_66 : decode cX8_ratio 66 = .ok (.ldc2_w 182, 3) := by decide +kernel
theorem dX8_ratio_69 : decode cX8_ratio 69 = .ok (.lmul, 1) := by decide +kernel
theorem dX8_ratio_70 : decode cX8_ratio 70 = .ok (.lstore 5, 2) := by decide +kernel
theorem dX8_ratio_72 : decode cX8_ratio 72 = .ok (.iinc 7 1, 3) := by decide +kernel
theorem dX8_ratio_75 : decode cX8_ratio 75 = .ok (.goto (-41), 3) := by decide +kernel
theorem dX8_ratio_78 : decode cX8_ratio 78 = .ok (.lload_n 3, 1) := by decide +kernel
theorem dX8_ratio_79 : decode cX8_ratio 79 = .ok (.lstore 7, 2) := by decide +kernel
theorem dX8_ratio_81 : decode cX8_ratio 81 = .ok (.lload 5, 2) := by decide +kernel
theorem dX8_ratio_83 : decode cX8_ratio 83 = .ok (.lstore 9, 2) := by decide +kernel
theorem dX8_ratio_85 : decode cX8_ratio 85 = .ok (.lload 9, 2) := by decide +kernel
theorem dX8_ratio_87 : decode cX8_ratio 87 = .ok (.lconst 0, 1) := by decide +kernel
theorem dX8_ratio_88 : decode cX8_ratio 88 = .ok (.lcmp, 1) := by decide +kernel
theorem dX8_ratio_89 : decode cX8_ratio 89 = .ok (.ifCond .eq 21, 3) := by decide +kernel
theorem dX8_ratio_92 : decode cX8_ratio 92 = .ok (.lload 7, 2) := by decide +kernel
theorem dX8_ratio_94 : decode cX8_ratio 94 = .ok (.lload 9, 2) := by decide +kernel
theorem dX8_ratio_96 : decode cX8_ratio 96 = .ok (.lrem, 1) := by decide +kernel
theorem dX8_ratio_97 : decode cX8_ratio 97 = .ok (.lstore 11, 2) := by decide +kernel
theorem dX8_ratio_99 : decode cX8_ratio 99 = .ok (.lload 9, 2) := by decide +kernel
theorem dX8_ratio_101 : decode cX8_ratio 101 = .ok (.lstore 7, 2) := by decide +kernel
theorem dX8_ratio_103 : decode cX8_ratio 103 = .ok (.lload 11, 2) := by decide +kernel
theorem dX8_ratio_105 : decode cX8_ratio 105 = .ok (.lstore 9, 2) := by decide +kernel
theorem dX8_ratio_107 : decode cX8_ratio 107 = .ok (.goto (-22), 3) := by decide +kernel
theorem dX8_ratio_110 : decode cX8_ratio 110 = .ok (.iload_n 2, 1) := by decide +kernel
theorem dX8_ratio_111 : decode cX8_ratio 111 = .ok (.ifCond .ne 10, 3) := by decide +kernel
theorem dX8_ratio_114 : decode cX8_ratio 114 = .ok (.lload_n 3, 1) := by decide +kernel
theorem dX8_ratio_115 : decode cX8_ratio 115 = .ok (.lload 7, 2) := by decide +kernel
theorem dX8_ratio_117 : decode cX8_ratio 117 = .ok (.ldiv, 1) := by decide +kernel
theorem dX8_ratio_118 : decode cX8_ratio 118 = .ok (.goto 8, 3) := by decide +kernel
theorem dX8_ratio_121 : decode cX8_ratio 121 = .ok (.lload 5, 2) := by decide +kernel
theorem dX8_ratio_123 : decode cX8_ratio 123 = .ok (.lload 7, 2) := by decide +kernel
theorem dX8_ratio_125 : decode cX8_ratio 125 = .ok (.ldiv, 1) := by decide +kernel
theorem dX8_ratio_126 : decode cX8_ratio 126 = .ok (.lreturn, 1) := by decide +kernel
set_option maxRecDepth 20000 in
theorem ggX8_waitOf_X8_of : GoodIn wsX8_waitOf wsX8_of := goodIn_r _ [5, 6, 7, 8, 9, 10, 11, 12, 13, 14, 15, 16, 17, 18, 19, 20, 21, 22, 23, 24, 25, 26, 27, 28, 29, 30] (by decide +kernel) (by decide +kernel)
set_option maxRecDepth 20000 in
theorem gX8_waitOf_X8_of : GoodIn wsX8_waitOf (wsV RX8 106 RX8 yX8_of wsX8_of) := goodIn_app (goodIn_of _ (by decide +kernel)) ggX8_waitOf_X8_of
theorem dX8_waitOf_0 : decode cX8_waitOf 0 = .ok (.aload_n 0, 1) := by decide +kernel
theorem dX8_waitOf_1 : decode cX8_waitOf 1 = .ok (.iconst 0, 1) := by decide +kernel
theorem dX8_waitOf_2 : decode cX8_waitOf 2 = .ok (.iconst 3, 1) := by decide +kernel
theorem dX8_waitOf_3 : decode cX8_waitOf 3 = .ok (.invokevirtual 106, 3) := by decide +kernel
theorem dX8_waitOf_6 : decode cX8_waitOf 6 = .ok (.istore_n 3, 1) := by decide +kernel
theorem dX8_waitOf_7 : decode cX8_waitOf 7 = .ok (.iconst 1, 1) := by decide +kernel
theorem dX8_waitOf_8 : decode cX8_waitOf 8 = .ok (.istore 4, 2) := by decide +kernel
theorem dX8_waitOf_10 : decode cX8_waitOf 10 = .ok (.iload 4, 2) := by decide +kernel
theorem dX8_waitOf_12 : decode cX8_waitOf 12 = .ok (.iload_n 1, 1) := by decide +kernel
theorem dX8_waitOf_13 : decode cX8_waitOf 13 = .ok (.if_icmp .gt 36, 3) := by decide +kernel
theorem dX8_waitOf_16 : decode cX8_waitOf 16 = .ok (.aload_n 0, 1) := by decide +kernel
theorem dX8_waitOf_17 : decode cX8_waitOf 17 = .ok (.iload 4, 2) := by decide +kernel
theorem dX8_waitOf_19 : decode cX8_waitOf 19 = .ok (.iconst 3, 1) := by decide +kernel
theorem dX8_waitOf_20 : decode cX8_waitOf 20 = .ok (.invokevirtual 106, 3) := by decide +kernel
theorem dX8_waitOf_23 : decode cX8_waitOf 23 = .ok (.iload_n 3, 1) := by decide +kernel
theorem dX8_waitOf_24 : decode cX8_waitOf 24 = .ok (.iload_n 2, 1) := by decide +kernel
theorem dX8_waitOf_25 : decode cX8_waitOf 25 = .ok (.iadd, 1) := by decide +kernel
theorem dX8_waitOf_26 : decode cX8_waitOf 26 = .ok (.if_icmp .le 13, 3) := by decide +kernel
theorem dX8_waitOf_29 : decode cX8_waitOf 29 = .ok (.aload_n 0, 1) := by decide +kernel
theorem dX8_waitOf_30 : decode cX8_waitOf 30 = .ok (.iload 4, 2) := by decide +kernel
theorem dX8_waitOf_32 : decode cX8_waitOf 32 = .ok (.iconst 3, 1) := by decide +kernel
theorem dX8_waitOf_33 : decode cX8_waitOf 33 = .ok (.invokevirtual 106, 3) := by decide +kernel
theorem dX8_waitOf_36 : decode cX8_waitOf 36 = .ok (.goto 6, 3) := by decide +kernel
theorem dX8_waitOf_39 : decode cX8_waitOf 39 = .ok (.iload_n 3, 1) := by decide +kernel
theorem dX8_waitOf_40 : decode cX8_waitOf 40 = .ok (.iload_n 2, 1) := by decide +kernel
theorem dX8_waitOf_41 : decode cX8_waitOf 41 = .ok (.iadd, 1) := by decide +kernel
theorem dX8_waitOf_42 : decode cX8_waitOf 42 = .ok (.istore_n 3, 1) := by decide +kernel
theorem dX8_waitOf_43 : decode cX8_waitOf 43 = .ok (.iinc 4 1, 3) := by decide +kernel
theorem dX8_waitOf_46 : decode cX8_waitOf 46 = .ok (.goto (-36), 3) := by decide +kernel
theorem dX8_waitOf_49 : decode cX8_waitOf 49 = .ok (.iload_n 3, 1) := by decide +kernel
theorem dX8_waitOf_50 : decode cX8_waitOf 50 = .ok (.ireturn, 1) := by decide +kernel
set_option maxRecDepth 20000 in
theorem ggX8_graded_X8_in : GoodIn wsX8_graded wsX8_in := goodIn_r _ [6] (by decide +kernel) (by decide +kernel)
set_option maxRecDepth 20000 in
theorem gX8_graded_X8_in : GoodIn wsX8_graded (va_wsS RX8 63 yX8_in wsX8_in) := goodIn_app (goodIn_of _ (by decide +kernel)) ggX8_graded_X8_in
set_option maxRecDepth 20000 in
theorem ggX8_graded_X8_of : GoodIn wsX8_graded wsX8_of := goodIn_r _ [10, 2, 11, 12, 13, 14, 15, 16, 17, 18, 19, 20, 21, 22, 23, 24, 25, 26, 27, 28, 29, 30, 31, 32, 33, 34] (by decide +kernel) (by decide +kernel)
set_option maxRecDepth 20000 in
theorem gX8_graded_X8_of : GoodIn wsX8_graded (wsV RX8 106 RX8 yX8_of wsX8_of) := goodIn_app (goodIn_of _ (by decide +kernel)) ggX8_graded_X8_of
theorem dX8_graded_0 : decode cX8_graded 0 = .ok (.aload_n 0, 1) := by decide +kernel
theorem dX8_graded_1 : decode cX8_graded 1 = .ok (.iconst 0, 1) := by decide +kernel
theorem dX8_graded_2 : decode cX8_graded 2 = .ok (.putfield 59, 3) := by decide +kernel
theorem dX8_graded_5 : decode cX8_graded 5 = .ok (.iload_n 1, 1) := by decide +kernel
theorem dX8_graded_6 : decode cX8_graded 6 = .ok (.iconst 0, 1) := by decide +kernel
theorem dX8_graded_7 : decode cX8_graded 7 = .ok (.bipush 9, 2) := by decide +kernel
theorem dX8_graded_9 : decode cX8_graded 9 = .ok (.invokestatic 63, 3) := by decide +kernel
theorem dX8_graded_12 : decode cX8_graded 12 = .ok (.ifCond .ne 5, 3) := by decide +kernel
theorem dX8_graded_15 : decode cX8_graded 15 = .ok (.iconst (-1), 1) := by decide +kernel
theorem dX8_graded_16 : decode cX8_graded 16 = .ok (.ireturn, 1) := by decide +kernel
theorem dX8_graded_17 : decode cX8_graded 17 = .ok (.iconst 1, 1) := by decide +kernel
theorem dX8_graded_18 : decode cX8_graded 18 = .ok (.istore_n 2, 1) := by decide +kernel
theorem dX8_graded_19 : decode cX8_graded 19 = .ok (.iconst 1, 1) := by decide +kernel
theorem dX8_graded_20 : decode cX8_graded 20 = .ok (.istore_n 3, 1) := by decide +kernel
theorem dX8_graded_21 : decode cX8_graded 21 = .ok (.iload_n 3, 1) := by decide +kernel
theorem dX8_graded_22 : decode cX8_graded 22 = .ok (.aload_n 0, 1) := by decide +kernel
theorem dX8_graded_23 : decode cX8_graded 23 = .ok (.getfield 13, 3) := by decide +kernel
theorem dX8_graded_26 : decode cX8_graded 26 = .ok (.iconst 0, 1) := by decide +kernel
theorem dX8_graded_27 : decode cX8_graded 27 = .ok (.iaload, 1) := by decide +kernel
theorem dX8_graded_28 : decode cX8_graded 28 = .ok (.if_icmp .ge 38, 3) := by decide +kernel
theorem dX8_graded_31 : decode cX8_graded 31 = .ok (.iload_n 2, 1) := by decide +kernel
theorem dX8_graded_32 : decode cX8_graded 32 = .ok (.ifCond .eq 26, 3) := by decide +kernel
theorem dX8_graded_35 : decode cX8_graded 35 = .ok (.aload_n 0, 1) := by decide +kernel
theorem dX8_graded_36 : decode cX8_graded 36 = .ok (.iload_n 3, 1) := by decide +kernel
theorem dX8_graded_37 : decode cX8_graded 37 = .ok (.iconst 3, 1) := by decide +kernel
theorem dX8_graded_38 : decode cX8_graded 38 = .ok (.invokevirtual 106, 3) := by decide +kernel
theorem dX8_graded_41 : decode cX8_graded 41 = .ok (.aload_n 0, 1) := by decide +kernel
theorem dX8_graded_42 : decode cX8_graded 42 = .ok (.iload_n 3, 1) := by decide +kernel
theorem dX8_graded_43 : decode cX8_graded 43 = .ok (.iconst 1, 1) := by decide +kernel
theorem dX8_graded_44 : decode cX8_graded 44 = .ok (.isub, 1) := by decide +kernel
theorem dX8_graded_45 : decode cX8_graded 45 = .ok (.iconst 3, 1) := by decide +kernel
theorem dX8_graded_46 : decode cX8_graded 46 = .ok (.invokevirtual 106, 3) := by decide +kernel
theorem dX8_graded_49 : decode cX8_graded 49 = .ok (.isub, 1) := by decide +kernel
theorem dX8_graded_50 : decode cX8_graded 50 = .ok (.iload_n 1, 1) := by decide +kernel
theorem dX8_graded_51 : decode cX8_graded 51 = .ok (.if_icmp .lt 7, 3) := by decide +kernel
theorem dX8_graded_54 : decode cX8_graded 54 = .ok (.iconst 1, 1) := by decide +kernel
theorem dX8_graded_55 : decode cX8_graded 55 = .ok (.goto 4, 3) := by decide +kernel
theorem dX8_graded_58 : decode cX8_graded 58 = .ok (.iconst 0, 1) := by decide +kernel
theorem dX8_graded_59 : decode cX8_graded 59 = .ok (.istore_n 2, 1) := by decide +kernel
theorem dX8_graded_60 : decode cX8_graded 60 = .ok (.iinc 3 1, 3) := by decide +kernel
theorem dX8_graded_63 : decode cX8_graded 63 = .ok (.goto (-42), 3) := by decide +kernel
theorem dX8_graded_66 : decode cX8_graded 66 = .ok (.iload_n 2, 1) := by decide +kernel
theorem dX8_graded_67 : decode cX8_graded 67 = .ok (.ifCond .eq 7, 3) := by decide +kernel
theorem dX8_graded_70 : decode cX8_graded 70 = .ok (.iconst 1, 1) := by decide +kernel
theorem dX8_graded_71 : decode cX8_graded 71 = .ok (.goto 4, 3) := by decide +kernel
theorem dX8_graded_74 : decode cX8_graded 74 = .ok (.iconst 0, 1) := by decide +kernel
theorem dX8_graded_75 : decode cX8_graded 75 = .ok (.ireturn, 1) := by decide +kernel
set_option maxRecDepth 20000 in
theorem ggX8_waits_X8_isStage : GoodIn wsX8_waits wsX8_isStage := goodIn_r _ [6, 7, 8, 9, 5, 10, 19, 20, 21, 22, 23, 24, 25, 26, 27, 28, 29, 30, 31, 32, 33, 34, 35, 36, 37, 38, 39, 40, 41, 42] (by decide +kernel) (by decide +kernel)
set_option maxRecDepth 20000 in
theorem gX8_waits_X8_isStage : GoodIn wsX8_waits (wsV RX8 134 RX8 yX8_isStage wsX8_isStage) := goodIn_app (goodIn_of _ (by decide +kernel)) ggX8_waits_X8_isStage
set_option maxRecDepth 20000 in
theorem ggX8_waits_X8_in : GoodIn wsX8_waits wsX8_in := goodIn_r _ [10] (by decide +kernel) (by decide +kernel)
set_option maxRecDepth 20000 in
theorem gX8_waits_X8_in : GoodIn wsX8_waits (va_wsS RX8 63 yX8_in wsX8_in) := goodIn_app (goodIn_of _ (by decide +kernel)) ggX8_waits_X8_in
set_option maxRecDepth 20000 in
theorem ggX8_waits_X8_waitOf : GoodIn wsX8_waits wsX8_waitOf := goodIn_r _ [14, 15, 16, 17, 5, 18, 7, 19, 20, 21, 22, 23, 24, 25, 26, 27, 28, 29, 30, 31, 32, 33, 34, 35, 36, 37, 38, 39, 40, 41, 42] (by decide +kernel) (by decide +kernel)
set_option maxRecDepth 20000 in
theorem gX8_waits_X8_waitOf : GoodIn wsX8_waits (wsV RX8 184 RX8 yX8_waitOf wsX8_waitOf) := goodIn_app (goodIn_of _ (by decide +kernel)) ggX8_waits_X8_waitOf
theorem dX8_waits_0 : decode cX8_waits 0 = .ok (.aload_n 0, 1) := by decide +kernel
theorem dX8_waits_1 : decode cX8_waits 1 = .ok (.iconst 0, 1) := by decide +kernel
theorem dX8_waits_2 : decode cX8_waits 2 = .ok (.putfield 59, 3) := by decide +kernel
theorem dX8_waits_5 : decode cX8_waits 5 = .ok (.aload_n 0, 1) := by decide +kernel
theorem dX8_waits_6 : decode cX8_waits 6 = .ok (.iload_n 1, 1) := by decide +kernel
theorem dX8_waits_7 : decode cX8_waits 7 = .ok (.invokevirtual 134, 3) := by decide +kernel
theorem dX8_waits_10 : decode cX8_waits 10 = .ok (.ifCond .eq 22, 3) := by decide +kernel
theorem dX8_waits_13 : decode cX8_waits 13 = .ok (.iload_n 2, 1) := by decide +kernel
theorem dX8_waits_14 : decode cX8_waits 14 = .ok (.iconst 0, 1) := by decide +kernel
theorem dX8_waits_15 : decode cX8_waits 15 = .ok (.bipush 9, 2) := by decide +kernel
theorem dX8_waits_17 : decode cX8_waits 17 = .ok (.invokestatic 63, 3) := by decide +kernel
theorem dX8_waits_20 : decode cX8_waits 20 = .ok (.ifCond .eq 12, 3) := by decide +kernel
theorem dX8_waits_23 : decode cX8_waits 23 = .ok (.aload_n 0, 1) := by decide +kernel
theorem dX8_waits_24 : decode cX8_waits 24 = .ok (.iload_n 1, 1) := by decide +kernel
theorem dX8_waits_25 : decode cX8_waits 25 = .ok (.iload_n 2, 1) := by decide +kernel
theorem dX8_waits_26 : decode cX8_waits 26 = .ok (.invokevirtual 184, 3) := by decide +kernel
theorem dX8_waits_29 : decode cX8_waits 29 = .ok (.goto 4, 3) := by decide +kernel
theorem dX8_waits_32 : decode cX8_waits 32 = .ok (.iconst (-1), 1) := by decide +kernel
theorem dX8_waits_33 : decode cX8_waits 33 = .ok (.ireturn, 1) := by decide +kernel
set_option maxRecDepth 20000 in
theorem ggX8_good_X8_goodOf : GoodIn wsX8_good wsX8_goodOf := goodIn_r _ [6, 7, 8, 9, 10, 5, 11, 1, 12, 13, 14, 15, 16, 17, 18, 19, 20, 21, 22, 23, 24, 25, 26, 27, 28, 29, 30, 31, 32, 33, 34, 35] (by decide +kernel) (by decide +kernel)
set_option maxRecDepth 20000 in
theorem gX8_good_X8_goodOf : GoodIn wsX8_good (wsV RX8 109 RX8 yX8_goodOf wsX8_goodOf) := goodIn_app (goodIn_of _ (by decide +kernel)) ggX8_good_X8_goodOf
theorem dX8_good_0 : decode cX8_good 0 = .ok (.iconst 0, 1) := by decide +kernel
theorem dX8_good_1 : decode cX8_good 1 = .ok (.istore_n 1, 1) := by decide +kernel
theorem dX8_good_2 : decode cX8_good 2 = .ok (.iconst 0, 1) := by decide +kernel
theorem dX8_good_3 : decode cX8_good 3 = .ok (.istore_n 2, 1) := by decide +kernel
theorem dX8_good_4 : decode cX8_good 4 = .ok (.iload_n 2, 1) := by decide +kernel
theorem dX8_good_5 : decode cX8_good 5 = .ok (.aload_n 0, 1) := by decide +kernel
theorem dX8_good_6 : decode cX8_good 6 = .ok (.getfield 13, 3) := by decide +kernel
theorem dX8_good_9 : decode cX8_good 9 = .ok (.iconst 0, 1) := by decide +kernel
theorem dX8_good_10 : decode cX8_good 10 = .ok (.iaload, 1) := by decide +kernel
theorem dX8_good_11 : decode cX8_good 11 = .ok (.if_icmp .ge 25, 3) := by decide +kernel
theorem dX8_good_14 : decode cX8_good 14 = .ok (.iload_n 1, 1) := by decide +kernel
theorem dX8_good_15 : decode cX8_good 15 = .ok (.aload_n 0, 1) := by decide +kernel
theorem dX8_good_16 : decode cX8_good 16 = .ok (.iload_n 2, 1) := by decide +kernel
theorem dX8_good_17 : decode cX8_good 17 = .ok (.invokevirtual 109, 3) := by decide +kernel
theorem dX8_good_20 : decode cX8_good 20 = .ok (.ifCond .ne 7, 3) := by decide +kernel
theorem dX8_good_23 : decode cX8_good 23 = .ok (.iconst 1, 1) := by decide +kernel
theorem dX8_good_24 : decode cX8_good 24 = .ok (.goto 4, 3) := by decide +kernel
theorem dX8_good_27 : decode cX8_good 27 = .ok (.iconst 0, 1) := by decide +kernel
theorem dX8_good_28 : decode cX8_good 28 = .ok (.iadd, 1) := by decide +kernel
theorem dX8_good_29 : decode cX8_good 29 = .ok (.istore_n 1, 1) := by decide +kernel
theorem dX8_good_30 : decode cX8_good 30 = .ok (.iinc 2 1, 3) := by decide +kernel
theorem dX8_good_33 : decode cX8_good 33 = .ok (.goto (-29), 3) := by decide +kernel
theorem dX8_good_36 : decode cX8_good 36 = .ok (.iload_n 1, 1) := by decide +kernel
theorem dX8_good_37 : decode cX8_good 37 = .ok (.ireturn, 1) := by decide +kernel
theorem dX8_unlike_0 : decode cX8_unlike 0 = .ok (.iconst 0, 1) := by decide +kernel
theorem dX8_unlike_1 : decode cX8_unlike 1 = .ok (.istore_n 1, 1) := by decide +kernel
theorem dX8_unlike_2 : decode cX8_unlike 2 = .ok (.iconst 0, 1) := by decide +kernel
theorem dX8_unlike_3 : decode cX8_unlike 3 = .ok (.istore_n 2, 1) := by decide +kernel
theorem dX8_unlike_4 : decode cX8_unlike 4 = .ok (.iload_n 2, 1) := by decide +kernel
theorem dX8_unlike_5 : decode cX8_unlike 5 = .ok (.aload_n 0, 1) := by decide +kernel
theorem dX8_unlike_6 : decode cX8_unlike 6 = .ok (.getfield 13, 3) := by decide +kernel
theorem dX8_unlike_9 : decode cX8_unlike 9 = .ok (.iconst 5, 1) := by decide +kernel
theorem dX8_unlike_10 : decode cX8_unlike 10 = .ok (.iaload, 1) := by decide +kernel
theorem dX8_unlike_11 : decode cX8_unlike 11 = .ok (.if_icmp .ge 108, 3) := by decide +kernel
theorem dX8_unlike_14 : decode cX8_unlike 14 = .ok (.iconst 0, 1) := by decide +kernel
theorem dX8_unlike_15 : decode cX8_unlike 15 = .ok (.istore_n 3, 1) := by decide +kernel
theorem dX8_unlike_16 : decode cX8_unlike 16 = .ok (.iconst 0, 1) := by decide +kernel
theorem dX8_unlike_17 : decode cX8_unlike 17 = .ok (.istore 4, 2) := by decide +kernel
theorem dX8_unlike_19 : decode cX8_unlike 19 = .ok (.iload 4, 2) := by decide +kernel
theorem dX8_unlike_21 : decode cX8_unlike 21 = .ok (.iload_n 2, 1) := by decide +kernel
theorem dX8_unlike_22 : decode cX8_unlike 22 = .ok (.if_icmp .ge 79, 3) := by decide +kernel
theorem dX8_unlike_25 : decode cX8_unlike 25 = .ok (.iload_n 3, 1) := by decide +kernel
theorem dX8_unlike_26 : decode cX8_unlike 26 = .ok (.ifCond .ne 63, 3) := by decide +kernel
theorem dX8_unlike_29 : decode cX8_unlike 29 = .ok (.aload_n 0, 1) := by decide +kernel
theorem dX8_unlike_30 : decode cX8_unlike 30 = .ok (.getfield 13, 3) := by decide +kernel
theorem dX8_unlike_33 : decode cX8_unlike 33 = .ok (.bipush 54, 2) := by decide +kernel
theorem dX8_unlike_35 : decode cX8_unlike 35 = .ok (.iconst 3, 1) := by decide +kernel
theorem dX8_unlike_36 : decode cX8_unlike 36 = .ok (.iload 4, 2) := by decide +kernel
theorem dX8_unlike_38 : decode cX8_unlike 38 = .ok (.imul, 1) := by decide +kernel
theorem dX8_unlike_39 : decode cX8_unlike 39 = .ok (.iadd, 1) := by decide +kernel
theorem dX8_unlike_40 : decode cX8_unlike 40 = .ok (.iconst 1, 1) := by decide +kernel
theorem dX8_unlike_41 : decode cX8_unlike 41 = .ok (.iadd, 1) := by decide +kernel
theorem dX8_unlike_42 : decode cX8_unlike 42 = .ok (.iaload, 1) := by decide +kernel
theorem dX8_unlike_43 : decode cX8_unlike 43 = .ok (.aload_n 0, 1) := by decide +kernel
theorem dX8_unlike_44 : decode cX8_unlike 44 = .ok (.getfield 13, 3) := by decide +kernel
theorem dX8_unlike_47 : decode cX8_unlike 47 = .ok (.bipush 54, 2) := by decide +kernel
theorem dX8_unlike_49 : decode cX8_unlike 49 = .ok (.iconst 3, 1) := by decide +kernel
theorem dX8_unlike_50 : decode cX8_unlike 50 = .ok (.iload_n 2, 1) := by decide +kernel
theorem dX8_unlike_51 : decode cX8_unlike 51 = .ok (.imul, 1) := by decide +kernel
theorem dX8_unlike_52 : decode cX8_unlike 52 = .ok (.iadd, 1) := by decide +kernel
theorem dX8_unlike_53 : decode cX8_unlike 53 = .ok (.iconst 1, 1) := by decide +kernel
theorem dX8_unlike_54 : decode cX8_unlike 54 = .ok (.iadd, 1) := by decide +kernel
theorem dX8_unlike_55 : decode cX8_unlike 55 = .ok (.iaload, 1) := by decide +kernel
theorem dX8_unlike_56 : decode cX8_unlike 56 = .ok (.if_icmp .ne 37, 3) := by decide +kernel
theorem dX8_unlike_59 : decode cX8_unlike 59 = .ok (.aload_n 0, 1) := by decide +kernel
theorem dX8_unlike_60 : decode cX8_unlike 60 = .ok (.getfield 13, 3) := by decide +kernel
theorem dX8_unlike_63 : decode cX8_unlike 63 = .ok (.bipush 54, 2) := by decide +kernel
theorem dX8_unlike_65 : decode cX8_unlike 65 = .ok (.iconst 3, 1) := by decide +kernel
theorem dX8_unlike_66 : decode cX8_unlike 66 = .ok (.iload 4, 2) := by decide +kernel
theorem dX8_unlike_68 : decode cX8_unlike 68 = .ok (.imul, 1) := by decide +kernel
theorem dX8_unlike_69 : decode cX8_unlike 69 = .ok (.iadd, 1) := by decide +kernel
theorem dX8_unlike_70 : decode cX8_unlike 70 = .ok (.iconst 2, 1) := by decide +kernel
theorem dX8_unlike_71 : decode cX8_unlike 71 = .ok (.iadd, 1) := by decide +kernel
theorem dX8_unlike_72 : decode cX8_unlike 72 = .ok (.iaload, 1) := by decide +kernel
theorem dX8_unlike_73 : decode cX8_unlike 73 = .ok (.aload_n 0, 1) := by decide +kernel
theorem dX8_unlike_74 : decode cX8_unlike 74 = .ok (.getfield 13, 3) := by decide +kernel
theorem dX8_unlike_77 : decode cX8_unlike 77 = .ok (.bipush 54, 2) := by decide +kernel
theorem dX8_unlike_79 : decode cX8_unlike 79 = .ok (.iconst 3, 1) := by decide +kernel
theorem dX8_unlike_80 : decode cX8_unlike 80 = .ok (.iload_n 2, 1) := by decide +kernel
theorem dX8_unlike_81 : decode cX8_unlike 81 = .ok (.imul, 1) := by decide +kernel
theorem dX8_unlike_82 : decode cX8_unlike 82 = .ok (.iadd, 1) := by decide +kernel
theorem dX8_unlike_83 : decode cX8_unlike 83 = .ok (.iconst 2, 1) := by decide +kernel
theorem dX8_unlike_84 : decode cX8_unlike 84 = .ok (.iadd, 1) := by decide +kernel
theorem dX8_unlike_85 : decode cX8_unlike 85 = .ok (.iaload, 1) := by decide +kernel
theorem dX8_unlike_86 : decode cX8_unlike 86 = .ok (.if_icmp .ne 7, 3) := by decide +kernel
theorem dX8_unlike_89 : decode cX8_unlike 89 = .ok (.iconst 1, 1) := by decide +kernel
theorem dX8_unlike_90 : decode cX8_unlike 90 = .ok (.goto 4, 3) := by decide +kernel
theorem dX8_unlike_93 : decode cX8_unlike 93 = .ok (.iconst 0, 1) := by decide +kernel
theorem dX8_unlike_94 : decode cX8_unlike 94 = .ok (.istore_n 3, 1) := by decide +kernel
theorem dX8_unlike_95 : decode cX8_unlike 95 = .ok (.iinc 4 1, 3) := by decide +kernel
theorem dX8_unlike_98 : decode cX8_unlike 98 = .ok (.goto (-79), 3) := by decide +kernel
theorem dX8_unlike_101 : decode cX8_unlike 101 = .ok (.iload_n 1, 1) := by decide +kernel
theorem dX8_unlike_102 : decode cX8_unlike 102 = .ok (.iload_n 3, 1) := by decide +kernel
theorem dX8_unlike_103 : decode cX8_unlike 103 = .ok (.ifCond .eq 7, 3) := by decide +kernel
theorem dX8_unlike_106 : decode cX8_unlike 106 = .ok (.iconst 0, 1) := by decide +kernel
theorem dX8_unlike_107 : decode cX8_unlike 107 = .ok (.goto 4, 3) := by decide +kernel
theorem dX8_unlike_110 : decode cX8_unlike 110 = .ok (.iconst 1, 1) := by decide +kernel
theorem dX8_unlike_111 : decode cX8_unlike 111 = .ok (.iadd, 1) := by decide +kernel
theorem dX8_unlike_112 : decode cX8_unlike 112 = .ok (.istore_n 1, 1) := by decide +kernel
theorem dX8_unlike_113 : decode cX8_unlike 113 = .ok (.iinc 2 1, 3) := by decide +kernel
theorem dX8_unlike_116 : decode cX8_unlike 116 = .ok (.goto (-112), 3) := by decide +kernel
theorem dX8_unlike_119 : decode cX8_unlike 119 = .ok (.iload_n 1, 1) := by decide +kernel
theorem dX8_unlike_120 : decode cX8_unlike 120 = .ok (.ireturn, 1) := by decide +kernel
set_option maxRecDepth 20000 in
theorem ggX8_count_X8_lays : GoodIn wsX8_count wsX8_lays := goodIn_r _ [9, 2, 10, 11, 12, 13, 14, 15, 16, 17, 8, 18, 19, 20, 21, 22, 23, 24, 25, 26, 27, 28, 49, 50, 51, 52, 53, 54, 55, 56, 57, 58, 59, 60, 61, 62, 63, 64, 65, 66, 67, 68, 69, 70, 71, 72] (by decide +kernel) (by decide +kernel)
set_option maxRecDepth 20000 in
theorem gX8_count_X8_lays : GoodIn wsX8_count (wsV RX8 119 RX8 yX8_lays wsX8_lays) := goodIn_app (goodIn_of _ (by decide +kernel)) ggX8_count_X8_lays
set_option maxRecDepth 20000 in
theorem ggX8_count_X8_good : GoodIn wsX8_count wsX8_good := goodIn_r _ [32, 2, 19, 20, 21, 8, 22, 12, 15, 16, 17, 18, 49, 50, 51, 52, 53, 54, 55, 56, 57, 58, 59, 60, 61, 62, 63, 64, 65, 66, 67, 68, 69, 70, 71, 72] (by decide +kernel) (by decide +kernel)
set_option maxRecDepth 20000 in
theorem gX8_count_X8_good : GoodIn wsX8_count (wsV RX8 187 RX8 yX8_good wsX8_good) := goodIn_app (goodIn_of _ (by decide +kernel)) ggX8_count_X8_good
set_option maxRecDepth 20000 in
theorem ggX8_count_X8_stuck : GoodIn wsX8_count wsX8_stuck := goodIn_r _ [36, 2, 15, 16, 17, 8, 18, 49, 50, 51, 52, 53, 54, 55, 56, 57, 58, 59, 60, 61, 62, 63, 64, 65, 66, 67, 68, 69, 70, 71, 72] (by decide +kernel) (by decide +kernel)
set_option maxRecDepth 20000 in
theorem gX8_count_X8_stuck : GoodIn wsX8_count (wsV RX8 137 RX8 yX8_stuck wsX8_stuck) := goodIn_app (goodIn_of _ (by decide +kernel)) ggX8_count_X8_stuck
set_option maxRecDepth 20000 in
theorem ggX8_count_X8_offOf : GoodIn wsX8_count wsX8_offOf := goodIn_r _ [40, 2, 12, 15, 16, 17, 8, 18, 49, 50, 51, 52, 53, 54, 55, 56, 57, 58, 59, 60, 61, 62, 63, 64, 65, 66, 67, 68, 69, 70, 71, 72] (by decide +kernel) (by decide +kernel)
set_option maxRecDepth 20000 in
theorem gX8_count_X8_offOf : GoodIn wsX8_count (wsV RX8 171 RX8 yX8_offOf wsX8_offOf) := goodIn_app (goodIn_of _ (by decide +kernel)) ggX8_count_X8_offOf
set_option maxRecDepth 20000 in
theorem ggX8_count_X8_isQuiet : GoodIn wsX8_count wsX8_isQuiet := goodIn_r _ [44, 2, 14, 49, 50, 51, 52, 53, 54, 55, 56, 57, 58, 59, 60, 61, 62, 63, 64, 65, 66, 67, 68, 69, 70, 71, 72] (by decide +kernel) (by decide +kernel)
set_option maxRecDepth 20000 in
theorem gX8_count_X8_isQuiet : GoodIn wsX8_count (wsV RX8 157 RX8 yX8_isQuiet wsX8_isQuiet) := goodIn_app (goodIn_of _ (by decide +kernel)) ggX8_count_X8_isQuiet
set_option maxRecDepth 20000 in
theorem ggX8_count_X8_unlike : GoodIn wsX8_count wsX8_unlike := goodIn_r _ [48, 2, 49, 50, 51, 52, 53, 54, 55, 56, 57, 58, 59, 60, 61, 62, 63, 64, 65, 66, 67, 68, 69, 70, 71, 72] (by decide +kernel) (by decide +kernel)
set_option maxRecDepth 20000 in
theorem gX8_count_X8_unlike : GoodIn wsX8_count (wsV RX8 190 RX8 yX8_unlike wsX8_unlike) := goodIn_app (goodIn_of _ (by decide +kernel)) ggX8_count_X8_unlike
theorem dX8_count_0 : decode cX8_count 0 = .ok (.aload_n 0, 1) := by decide +kernel
theorem dX8_count_1 : decode cX8_count 1 = .ok (.iconst 0, 1) := by decide +kernel
theorem dX8_count_2 : decode cX8_count 2 = .ok (.putfield 59, 3) := by decide +kernel
theorem dX8_count_5 : decode cX8_count 5 = .ok (.aload_n 0, 1) := by decide +kernel
theorem dX8_count_6 : decode cX8_count 6 = .ok (.invokevirtual 119, 3) := by decide +kernel
theorem dX8_count_9 : decode cX8_count 9 = .ok (.iload_n 1, 1) := by decide +kernel
theorem dX8_count_10 : decode cX8_count 10 = .ok (.tableswitch 112 0 11 #[62, 62, 62, 62, 62, 69, 74, 79, 84, 89, 94, 107], 62) := by decide +kernel
theorem dX8_count_72 : decode cX8_count 72 = .ok (.aload_n 0, 1) := by decide +kernel
theorem dX8_count_73 : decode cX8_count 73 = .ok (.getfield 13, 3) := by decide +kernel
theorem dX8_count_76 : decode cX8_count 76 = .ok (.iload_n 1, 1) := by decide +kernel
theorem dX8_count_77 : decode cX8_count 77 = .ok (.iaload, 1) := by decide +kernel
theorem dX8_count_78 : decode cX8_count 78 = .ok (.ireturn, 1) := by decide +kernel
theorem dX8_count_79 : decode cX8_count 79 = .ok (.aload_n 0, 1) := by decide +kernel
theorem dX8_count_80 : decode cX8_count 80 = .ok (.invokevirtual 187, 3) := by decide +kernel
theorem dX8_count_83 : decode cX8_count 83 = .ok (.ireturn, 1) := by decide +kernel
theorem dX8_count_84 : decode cX8_count 84 = .ok (.aload_n 0, 1) := by decide +kernel
theorem dX8_count_85 : decode cX8_count 85 = .ok (.invokevirtual 137, 3) := by decide +kernel
theorem dX8_count_88 : decode cX8_count 88 = .ok (.ireturn, 1) := by decide +kernel
theorem dX8_count_89 : decode cX8_count 89 = .ok (.aload_n 0, 1) := by decide +kernel
theorem dX8_count_90 : decode cX8_count 90 = .ok (.invokevirtual 171, 3) := by decide +kernel
theorem dX8_count_93 : decode cX8_count 93 = .ok (.ireturn, 1) := by decide +kernel
theorem dX8_count_94 : decode cX8_count 94 = .ok (.aload_n 0, 1) := by decide +kernel
theorem dX8_count_95 : decode cX8_count 95 = .ok (.getfield 103, 3) := by decide +kernel
theorem dX8_count_98 : decode cX8_count 98 = .ok (.ireturn, 1) := by decide +kernel
theorem dX8_count_99 : decode cX8_count 99 = .ok (.aload_n 0, 1) := by decide +kernel
theorem dX8_count_100 : decode cX8_count 100 = .ok (.getfield 67, 3) := by decide +kernel
theorem dX8_count_103 : decode cX8_count 103 = .ok (.ireturn, 1) := by decide +kernel
theorem dX8_count_104 : decode cX8_count 104 = .ok (.aload_n 0, 1) := by decide +kernel
theorem dX8_count_105 : decode cX8_count 105 = .ok (.invokevirtual 157, 3) := by decide +kernel
theorem dX8_count_108 : decode cX8_count 108 = .ok (.ifCond .eq 7, 3) := by decide +kernel
theorem dX8_count_111 : decode cX8_count 111 = .ok (.iconst 1, 1) := by decide +kernel
theorem dX8_count_112 : decode cX8_count 112 = .ok (.goto 4, 3) := by decide +kernel
theorem dX8_count_115 : decode cX8_count 115 = .ok (.iconst 0, 1) := by decide +kernel
theorem dX8_count_116 : decode cX8_count 116 = .ok (.ireturn, 1) := by decide +kernel
theorem dX8_count_117 : decode cX8_count 117 = .ok (.aload_n 0, 1) := by decide +kernel
theorem dX8_count_118 : decode cX8_count 118 = .ok (.invokevirtual 190, 3) := by decide +kernel
theorem dX8_count_121 : decode cX8_count 121 = .ok (.ireturn, 1) := by decide +kernel
theorem dX8_count_122 : decode cX8_count 122 = .ok (.iconst (-1), 1) := by decide +kernel
theorem dX8_count_123 : decode cX8_count 123 = .ok (.ireturn, 1) := by decide +kernel
