theorem dX6_giveBack_109 : decode cX6_giveBack 109 = .ok (.aload_n 0, 1) := by decide +kernel
theorem dX6_giveBack_110 : decode cX6_giveBack 110 = .ok (.getfield 63, 3) := by decide +kernel
theorem dX6_giveBack_113 : decode cX6_giveBack 113 = .ok (.iload_n 1, 1) := by decide +kernel
theorem dX6_giveBack_114 : decode cX6_giveBack 114 = .ok (.iconst 1, 1) := by decide +kernel
theorem dX6_giveBack_115 : decode cX6_giveBack 115 = .ok (.bastore, 1) := by decide +kernel
theorem dX6_giveBack_116 : decode cX6_giveBack 116 = .ok (.aload_n 0, 1) := by decide +kernel
theorem dX6_giveBack_117 : decode cX6_giveBack 117 = .ok (.getfield 69, 3) := by decide +kernel
theorem dX6_giveBack_120 : decode cX6_giveBack 120 = .ok (.iload 4, 2) := by decide +kernel
theorem dX6_giveBack_122 : decode cX6_giveBack 122 = .ok (.dup2, 1) := by decide +kernel
theorem dX6_giveBack_123 : decode cX6_giveBack 123 = .ok (.iaload, 1) := by decide +kernel
theorem dX6_giveBack_124 : decode cX6_giveBack 124 = .ok (.iload_n 3, 1) := by decide +kernel
theorem dX6_giveBack_125 : decode cX6_giveBack 125 = .ok (.isub, 1) := by decide +kernel
theorem dX6_giveBack_126 : decode cX6_giveBack 126 = .ok (.iastore, 1) := by decide +kernel
theorem dX6_giveBack_127 : decode cX6_giveBack 127 = .ok (.aload_n 0, 1) := by decide +kernel
theorem dX6_giveBack_128 : decode cX6_giveBack 128 = .ok (.getfield 66, 3) := by decide +kernel
theorem dX6_giveBack_131 : decode cX6_giveBack 131 = .ok (.iload 4, 2) := by decide +kernel
theorem dX6_giveBack_133 : decode cX6_giveBack 133 = .ok (.dup2, 1) := by decide +kernel
theorem dX6_giveBack_134 : decode cX6_giveBack 134 = .ok (.iaload, 1) := by decide +kernel
theorem dX6_giveBack_135 : decode cX6_giveBack 135 = .ok (.iload_n 3, 1) := by decide +kernel
theorem dX6_giveBack_136 : decode cX6_giveBack 136 = .ok (.iload 6, 2) := by decide +kernel
theorem dX6_giveBack_138 : decode cX6_giveBack 138 = .ok (.isub, 1) := by decide +kernel
theorem dX6_giveBack_139 : decode cX6_giveBack 139 = .ok (.iadd, 1) := by decide +kernel
theorem dX6_giveBack_140 : decode cX6_giveBack 140 = .ok (.iastore, 1) := by decide +kernel
theorem dX6_giveBack_141 : decode cX6_giveBack 141 = .ok (.aload_n 0, 1) := by decide +kernel
theorem dX6_giveBack_142 : decode cX6_giveBack 142 = .ok (.getfield 66, 3) := by decide +kernel
theorem dX6_giveBack_145 : decode cX6_giveBack 145 = .ok (.iload 5, 2) := by decide +kernel
theorem dX6_giveBack_147 : decode cX6_giveBack 147 = .ok (.dup2, 1) := by decide +kernel
theorem dX6_giveBack_148 : decode cX6_giveBack 148 = .ok (.iaload, 1) := by decide +kernel
theorem dX6_giveBack_149 : decode cX6_giveBack 149 = .ok (.iload 6, 2) := by decide +kernel
theorem dX6_giveBack_151 : decode cX6_giveBack 151 = .ok (.iadd, 1) := by decide +kernel
theorem dX6_giveBack_152 : decode cX6_giveBack 152 = .ok (.iastore, 1) := by decide +kernel
theorem dX6_giveBack_153 : decode cX6_giveBack 153 = .ok (.aload_n 0, 1) := by decide +kernel
theorem dX6_giveBack_154 : decode cX6_giveBack 154 = .ok (.getfield 23, 3) := by decide +kernel
theorem dX6_giveBack_157 : decode cX6_giveBack 157 = .ok (.aload_n 0, 1) := by decide +kernel
theorem dX6_giveBack_158 : decode cX6_giveBack 158 = .ok (.getfield 48, 3) := by decide +kernel
theorem dX6_giveBack_161 : decode cX6_giveBack 161 = .ok (.iload_n 1, 1) := by decide +kernel
theorem dX6_giveBack_162 : decode cX6_giveBack 162 = .ok (.iaload, 1) := by decide +kernel
theorem dX6_giveBack_163 : decode cX6_giveBack 163 = .ok (.iload 5, 2) := by decide +kernel
theorem dX6_giveBack_165 : decode cX6_giveBack 165 = .ok (.iastore, 1) := by decide +kernel
theorem dX6_giveBack_166 : decode cX6_giveBack 166 = .ok (.aload_n 0, 1) := by decide +kernel
theorem dX6_giveBack_167 : decode cX6_giveBack 167 = .ok (.iload 5, 2) := by decide +kernel
theorem dX6_giveBack_169 : decode cX6_giveBack 169 = .ok (.iload 4, 2) := by decide +kernel
theorem dX6_giveBack_171 : decode cX6_giveBack 171 = .ok (.invokevirtual 114, 3) := by decide +kernel
theorem dX6_giveBack_174 : decode cX6_giveBack 174 = .ok (.iload 6, 2) := by decide +kernel
theorem dX6_giveBack_176 : decode cX6_giveBack 176 = .ok (.ireturn, 1) := by decide +kernel
theorem dX6_day_0 : decode cX6_day 0 = .ok (.aload_n 0, 1) := by decide +kernel
theorem dX6_day_1 : decode cX6_day 1 = .ok (.iconst 0, 1) := by decide +kernel
theorem dX6_day_2 : decode cX6_day 2 = .ok (.putfield 75, 3) := by decide +kernel
theorem dX6_day_5 : decode cX6_day 5 = .ok (.aload_n 0, 1) := by decide +kernel
theorem dX6_day_6 : decode cX6_day 6 = .ok (.getfield 111, 3) := by decide +kernel
theorem dX6_day_9 : decode cX6_day 9 = .ok (.ireturn, 1) := by decide +kernel
theorem dX6_copies_0 : decode cX6_copies 0 = .ok (.aload_n 0, 1) := by decide +kernel
theorem dX6_copies_1 : decode cX6_copies 1 = .ok (.iconst 0, 1) := by decide +kernel
theorem dX6_copies_2 : decode cX6_copies 2 = .ok (.putfield 75, 3) := by decide +kernel
theorem dX6_copies_5 : decode cX6_copies 5 = .ok (.aload_n 0, 1) := by decide +kernel
theorem dX6_copies_6 : decode cX6_copies 6 = .ok (.getfield 26, 3) := by decide +kernel
theorem dX6_copies_9 : decode cX6_copies 9 = .ok (.ireturn, 1) := by decide +kernel
set_option maxRecDepth 20000 in
theorem ggX6_reading_X6_isCopy : GoodIn wsX6_reading wsX6_isCopy := goodIn_r _ [6, 7, 8, 9, 5, 10, 19, 20, 21, 22, 23, 24, 25, 26, 27, 28, 29, 30, 31, 32, 33, 34, 35, 36, 37, 38, 39, 40, 41, 42, 43, 44] (by decide +kernel) (by decide +kernel)
set_option maxRecDepth 20000 in
theorem gX6_reading_X6_isCopy : GoodIn wsX6_reading (wsV RX6 99 RX6 yX6_isCopy wsX6_isCopy) := goodIn_app (goodIn_of _ (by decide +kernel)) ggX6_reading_X6_isCopy
set_option maxRecDepth 20000 in
theorem ggX6_reading_X6_isPlace : GoodIn wsX6_reading wsX6_isPlace := goodIn_r _ [13, 8, 9, 5, 10] (by decide +kernel) (by decide +kernel)
set_option maxRecDepth 20000 in
theorem gX6_reading_X6_isPlace : GoodIn wsX6_reading (va_wsS RX6 88 yX6_isPlace wsX6_isPlace) := goodIn_app (goodIn_of _ (by decide +kernel)) ggX6_reading_X6_isPlace
set_option maxRecDepth 20000 in
theorem ggX6_reading_X6_goes : GoodIn wsX6_reading wsX6_goes := goodIn_r _ [17, 18, 19, 20, 21, 22, 23, 24, 25, 26, 27, 28, 29, 30, 31, 32, 33, 34, 35, 36, 37, 38, 39, 40, 41, 42, 43, 44] (by decide +kernel) (by decide +kernel)
set_option maxRecDepth 20000 in
theorem gX6_reading_X6_goes : GoodIn wsX6_reading (wsV RX6 95 RX6 yX6_goes wsX6_goes) := goodIn_app (goodIn_of _ (by decide +kernel)) ggX6_reading_X6_goes
theorem dX6_reading_0 : decode cX6_reading 0 = .ok (.aload_n 0, 1) := by decide +kernel
theorem dX6_reading_1 : decode cX6_reading 1 = .ok (.aload_n 0, 1) := by decide +kernel
theorem dX6_reading_2 : decode cX6_reading 2 = .ok (.iload_n 1, 1) := by decide +kernel
theorem dX6_reading_3 : decode cX6_reading 3 = .ok (.invokevirtual 99, 3) := by decide +kernel
theorem dX6_reading_6 : decode cX6_reading 6 = .ok (.ifCond .eq 14, 3) := by decide +kernel
theorem dX6_reading_9 : decode cX6_reading 9 = .ok (.iload_n 2, 1) := by decide +kernel
theorem dX6_reading_10 : decode cX6_reading 10 = .ok (.invokestatic 88, 3) := by decide +kernel
theorem dX6_reading_13 : decode cX6_reading 13 = .ok (.ifCond .eq 7, 3) := by decide +kernel
theorem dX6_reading_16 : decode cX6_reading 16 = .ok (.iconst 1, 1) := by decide +kernel
theorem dX6_reading_17 : decode cX6_reading 17 = .ok (.goto 4, 3) := by decide +kernel
theorem dX6_reading_20 : decode cX6_reading 20 = .ok (.iconst 0, 1) := by decide +kernel
theorem dX6_reading_21 : decode cX6_reading 21 = .ok (.iconst 1, 1) := by decide +kernel
theorem dX6_reading_22 : decode cX6_reading 22 = .ok (.iconst 1, 1) := by decide +kernel
theorem dX6_reading_23 : decode cX6_reading 23 = .ok (.invokevirtual 95, 3) := by decide +kernel
theorem dX6_reading_26 : decode cX6_reading 26 = .ok (.ifCond .eq 17, 3) := by decide +kernel
theorem dX6_reading_29 : decode cX6_reading 29 = .ok (.aload_n 0, 1) := by decide +kernel
theorem dX6_reading_30 : decode cX6_reading 30 = .ok (.getfield 7, 3) := by decide +kernel
theorem dX6_reading_33 : decode cX6_reading 33 = .ok (.bipush 24, 2) := by decide +kernel
theorem dX6_reading_35 : decode cX6_reading 35 = .ok (.iload_n 1, 1) := by decide +kernel
theorem dX6_reading_36 : decode cX6_reading 36 = .ok (.imul, 1) := by decide +kernel
theorem dX6_reading_37 : decode cX6_reading 37 = .ok (.iload_n 2, 1) := by decide +kernel
theorem dX6_reading_38 : decode cX6_reading 38 = .ok (.iadd, 1) := by decide +kernel
theorem dX6_reading_39 : decode cX6_reading 39 = .ok (.iaload, 1) := by decide +kernel
theorem dX6_reading_40 : decode cX6_reading 40 = .ok (.goto 4, 3) := by decide +kernel
theorem dX6_reading_43 : decode cX6_reading 43 = .ok (.iconst 0, 1) := by decide +kernel
theorem dX6_reading_44 : decode cX6_reading 44 = .ok (.ireturn, 1) := by decide +kernel
theorem dX6_errorsOf_0 : decode cX6_errorsOf 0 = .ok (.iconst 0, 1) := by decide +kernel
theorem dX6_errorsOf_1 : decode cX6_errorsOf 1 = .ok (.istore_n 2, 1) := by decide +kernel
theorem dX6_errorsOf_2 : decode cX6_errorsOf 2 = .ok (.iconst 0, 1) := by decide +kernel
theorem dX6_errorsOf_3 : decode cX6_errorsOf 3 = .ok (.istore_n 3, 1) := by decide +kernel
theorem dX6_errorsOf_4 : decode cX6_errorsOf 4 = .ok (.iload_n 3, 1) := by decide +kernel
theorem dX6_errorsOf_5 : decode cX6_errorsOf 5 = .ok (.bipush 24, 2) := by decide +kernel
theorem dX6_errorsOf_7 : decode cX6_errorsOf 7 = .ok (.if_icmp .ge 31, 3) := by decide +kernel
theorem dX6_errorsOf_10 : decode cX6_errorsOf 10 = .ok (.iload_n 2, 1) := by decide +kernel
theorem dX6_errorsOf_11 : decode cX6_errorsOf 11 = .ok (.aload_n 0, 1) := by decide +kernel
theorem dX6_errorsOf_12 : decode cX6_errorsOf 12 = .ok (.getfield 7, 3) := by decide +kernel
theorem dX6_errorsOf_15 : decode cX6_errorsOf 15 = .ok (.bipush 24, 2) := by decide +kernel
theorem dX6_errorsOf_17 : decode cX6_errorsOf 17 = .ok (.iload_n 1, 1) := by decide +kernel
theorem dX6_errorsOf_18 : decode cX6_errorsOf 18 = .ok (.imul, 1) := by decide +kernel
theorem dX6_errorsOf_19 : decode cX6_errorsOf 19 = .ok (.iload_n 3, 1) := by decide +kernel
theorem dX6_errorsOf_20 : decode cX6_errorsOf 20 = .ok (.iadd, 1) := by decide +kernel
theorem dX6_errorsOf_21 : decode cX6_errorsOf 21 = .ok (.iaload, 1) := by decide +kernel
theorem dX6_errorsOf_22 : decode cX6_errorsOf 22 = .ok (.ifCond .eq 7, 3) := by decide +kernel
theorem dX6_errorsOf_25 : decode cX6_errorsOf 25 = .ok (.iconst 1, 1) := by decide +kernel
theorem dX6_errorsOf_26 : decode cX6_errorsOf 26 = .ok (.goto 4, 3) := by decide +kernel
theorem dX6_errorsOf_29 : decode cX6_errorsOf 29 = .ok (.iconst 0, 1) := by decide +kernel
theorem dX6_errorsOf_30 : decode cX6_errorsOf 30 = .ok (.iadd, 1) := by decide +kernel
theorem dX6_errorsOf_31 : decode cX6_errorsOf 31 = .ok (.istore_n 2, 1) := by decide +kernel
theorem dX6_errorsOf_32 : decode cX6_errorsOf 32 = .ok (.iinc 3 1, 3) := by decide +kernel
theorem dX6_errorsOf_35 : decode cX6_errorsOf 35 = .ok (.goto (-31), 3) := by decide +kernel
theorem dX6_errorsOf_38 : decode cX6_errorsOf 38 = .ok (.iload_n 2, 1) := by decide +kernel
theorem dX6_errorsOf_39 : decode cX6_errorsOf 39 = .ok (.ireturn, 1) := by decide +kernel
theorem dX6_share_0 : decode cX6_share 0 = .ok (.iconst 0, 1) := by decide +kernel
theorem dX6_share_1 : decode cX6_share 1 = .ok (.istore_n 3, 1) := by decide +kernel
theorem dX6_share_2 : decode cX6_share 2 = .ok (.iconst 0, 1) := by decide +kernel
theorem dX6_share_3 : decode cX6_share 3 = .ok (.istore 4, 2) := by decide +kernel
theorem dX6_share_5 : decode cX6_share 5 = .ok (.iload 4, 2) := by decide +kernel
theorem dX6_share_7 : decode cX6_share 7 = .ok (.bipush 24, 2) := by decide +kernel
theorem dX6_share_9 : decode cX6_share 9 = .ok (.if_icmp .ge 53, 3) := by decide +kernel
theorem dX6_share_12 : decode cX6_share 12 = .ok (.aload_n 0, 1) := by decide +kernel
theorem dX6_share_13 : decode cX6_share 13 = .ok (.getfield 7, 3) := by decide +kernel
theorem dX6_share_16 : decode cX6_share 16 = .ok (.bipush 24, 2) := by decide +kernel
theorem dX6_share_18 : decode cX6_share 18 = .ok (.iload_n 1, 1) := by decide +kernel
theorem dX6_share_19 : decode cX6_share 19 = .ok (.imul, 1) := by decide +kernel
theorem dX6_share_20 : decode cX6_share 20 = .ok (.iload 4, 2) := by decide +kernel
theorem dX6_share_22 : decode cX6_share 22 = .ok (.iadd, 1) := by decide +kernel
theorem dX6_share_23 : decode cX6_share 23 = .ok (.iaload, 1) := by decide +kernel
theorem dX6_share_24 : decode cX6_share 24 = .ok (.istore 5, 2) := by decide +kernel
theorem dX6_share_26 : decode cX6_share 26 = .ok (.iload_n 3, 1) := by decide +kernel
theorem dX6_share_27 : decode cX6_share 27 = .ok (.iload 5, 2) := by decide +kernel
theorem dX6_share_29 : decode cX6_share 29 = .ok (.ifCond .eq 24, 3) := by decide +kernel
theorem dX6_share_32 : decode cX6_share 32 = .ok (.iload 5, 2) := by decide +kernel
theorem dX6_share_34 : decode cX6_share 34 = .ok (.aload_n 0, 1) := by decide +kernel
theorem dX6_share_35 : decode cX6_share 35 = .ok (.getfield 7, 3) := by decide +kernel
theorem dX6_share_38 : decode cX6_share 38 = .ok (.bipush 24, 2) := by decide +kernel
theorem dX6_share_40 : decode cX6_share 40 = .ok (.iload_n 2, 1) := by decide +kernel
theorem dX6_share_41 : decode cX6_share 41 = .ok (.imul, 1) := by decide +kernel
theorem dX6_share_42 : decode cX6_share 42 = .ok (.iload 4, 2) := by decide +kernel
theorem dX6_share_44 : decode cX6_share 44 = .ok (.iadd, 1) := by decide +kernel
theorem dX6_share_45 : decode cX6_share 45 = .ok (.iaload, 1) := by decide +kernel
theorem dX6_share_46 : decode cX6_share 46 = .ok (.if_icmp .ne 7, 3) := by decide +kernel
theorem dX6_share_49 : decode cX6_share 49 = .ok (.iconst 1, 1) := by decide +kernel
theorem dX6_share_50 : decode cX6_share 50 = .ok (.goto 4, 3) := by decide +kernel
theorem dX6_share_53 : decode cX6_share 53 = .ok (.iconst 0, 1) := by decide +kernel
theorem dX6_share_54 : decode cX6_share 54 = .ok (.iadd, 1) := by decide +kernel
theorem dX6_share_55 : decode cX6_share 55 = .ok (.istore_n 3, 1) := by decide +kernel
theorem dX6_share_56 : decode cX6_share 56 = .ok (.iinc 4 1, 3) := by decide +kernel
theorem dX6_share_59 : decode cX6_share 59 = .ok (.goto (-54), 3) := by decide +kernel
theorem dX6_share_62 : decode cX6_share 62 = .ok (.iload_n 3, 1) := by decide +kernel
theorem dX6_share_63 : decode cX6_share 63 = .ok (.ireturn, 1) := by decide +kernel
set_option maxRecDepth 20000 in
theorem ggX6_errors_X6_isCopy : GoodIn wsX6_errors wsX6_isCopy := goodIn_r _ [5, 6, 7, 8, 4, 9, 20, 21, 22, 23, 24, 25, 26, 27, 28, 29, 30, 31, 32, 33, 34, 35, 36, 37, 38, 39, 40, 41, 42, 43, 44, 45] (by decide +kernel) (by decide +kernel)
set_option maxRecDepth 20000 in
theorem gX6_errors_X6_isCopy : GoodIn wsX6_errors (wsV RX6 99 RX6 yX6_isCopy wsX6_isCopy) := goodIn_app (goodIn_of _ (by decide +kernel)) ggX6_errors_X6_isCopy
set_option maxRecDepth 20000 in
theorem ggX6_errors_X6_goes : GoodIn wsX6_errors wsX6_goes := goodIn_r _ [13, 14, 20, 21, 22, 23, 24, 25, 26, 27, 28, 29, 30, 31, 32, 33, 34, 35, 36, 37, 38, 39, 40, 41, 42, 43, 44, 45] (by decide +kernel) (by decide +kernel)
set_option maxRecDepth 20000 in
theorem gX6_errors_X6_goes : GoodIn wsX6_errors (wsV RX6 95 RX6 yX6_goes wsX6_goes) := goodIn_app (goodIn_of _ (by decide +kernel)) ggX6_errors_X6_goes
set_option maxRecDepth 20000 in
theorem ggX6_errors_X6_errorsOf : GoodIn wsX6_errors wsX6_errorsOf := goodIn_r _ [18, 19, 20, 21, 22, 23, 24, 25, 26, 27, 28, 29, 30, 31, 32, 33, 34, 35, 36, 37, 38, 39, 40, 41, 42, 43, 44, 45] (by decide +kernel) (by decide +kernel)
set_option maxRecDepth 20000 in
theorem gX6_errors_X6_errorsOf : GoodIn wsX6_errors (wsV RX6 125 RX6 yX6_errorsOf wsX6_errorsOf) := goodIn_app (goodIn_of _ (by decide +kernel)) ggX6_errors_X6_errorsOf
theorem dX6_errors_0 : decode cX6_errors 0 = .ok (.aload_n 0, 1) := by decide +kernel
theorem dX6_errors_1 : decode cX6_errors 1 = .ok (.aload_n 0, 1) := by decide +kernel
theorem dX6_errors_2 : decode cX6_errors 2 = .ok (.iload_n 1, 1) := by decide +kernel
theorem dX6_errors_3 : decode cX6_errors 3 = .ok (.invokevirtual 99, 3) := by decide +kernel
theorem dX6_errors_6 : decode cX6_errors 6 = .ok (.iconst 1, 1) := by decide +kernel
theorem dX6_errors_7 : decode cX6_errors 7 = .ok (.iconst 1, 1) := by decide +kernel
theorem dX6_errors_8 : decode cX6_errors 8 = .ok (.invokevirtual 95, 3) := by decide +kernel
theorem dX6_errors_11 : decode cX6_errors 11 = .ok (.ifCond .eq 11, 3) := by decide +kernel
theorem dX6_errors_14 : decode cX6_errors 14 = .ok (.aload_n 0, 1) := by decide +kernel
theorem dX6_errors_15 : decode cX6_errors 15 = .ok (.iload_n 1, 1) := by decide +kernel
theorem dX6_errors_16 : decode cX6_errors 16 = .ok (.invokevirtual 125, 3) := by decide +kernel
theorem dX6_errors_19 : decode cX6_errors 19 = .ok (.goto 4, 3) := by decide +kernel
theorem dX6_errors_22 : decode cX6_errors 22 = .ok (.iconst 0, 1) := by decide +kernel
theorem dX6_errors_23 : decode cX6_errors 23 = .ok (.ireturn, 1) := by decide +kernel
set_option maxRecDepth 20000 in
theorem ggX6_shared_X6_isCopy : GoodIn wsX6_shared wsX6_isCopy := goodIn_r _ [5, 6, 7, 8, 4, 9, 20, 21, 22, 23, 24, 25, 26, 27, 28, 29, 30, 31, 32, 33, 34, 35, 36, 37, 38, 39, 40, 41, 42, 43, 44, 45] (by decide +kernel) (by decide +kernel)
set_option maxRecDepth 20000 in
theorem gX6_shared_X6_isCopy : GoodIn wsX6_shared (wsV RX6 99 RX6 yX6_isCopy wsX6_isCopy) := goodIn_app (goodIn_of _ (by decide +kernel)) ggX6_shared_X6_isCopy
set_option maxRecDepth 20000 in
theorem ggX6_shared_X6_goes : GoodIn wsX6_shared wsX6_goes := goodIn_r _ [13, 14, 20, 21, 22, 23, 24, 25, 26, 27, 28, 29, 30, 31, 32, 33, 34, 35, 36, 37, 38, 39, 40, 41, 42, 43, 44, 45] (by decide +kernel) (by decide +kernel)
set_option maxRecDepth 20000 in
theorem gX6_shared_X6_goes : GoodIn wsX6_shared (wsV RX6 95 RX6 yX6_goes wsX6_goes) := goodIn_app (goodIn_of _ (by decide +kernel)) ggX6_shared_X6_goes
set_option maxRecDepth 20000 in
theorem ggX6_shared_X6_share : GoodIn wsX6_shared wsX6_share := goodIn_r _ [18, 19, 20, 21, 22, 23, 24, 25, 26, 27, 28, 29, 30, 31, 32, 33, 34, 35, 36, 37, 38, 39, 40, 41, 42, 43, 44, 45] (by decide +kernel) (by decide +kernel)
set_option maxRecDepth 20000 in
theorem gX6_shared_X6_share : GoodIn wsX6_shared (wsV RX6 128 RX6 yX6_share wsX6_share) := goodIn_app (goodIn_of _ (by decide +kernel)) ggX6_shared_X6_share
theorem dX6_shared_0 : decode cX6_shared 0 = .ok (.aload_n 0, 1) := by decide +kernel
theorem dX6_shared_1 : decode cX6_shared 1 = .ok (.aload_n 0, 1) := by decide +kernel
theorem dX6_shared_2 : decode cX6_shared 2 = .ok (.iload_n 1, 1) := by decide +kernel
theorem dX6_shared_3 : decode cX6_shared 3 = .ok (.invokevirtual 99, 3) := by decide +kernel
theorem dX6_shared_6 : decode cX6_shared 6 = .ok (.ifCond .eq 15, 3) := by decide +kernel
theorem dX6_shared_9 : decode cX6_shared 9 = .ok (.aload_n 0, 1) := by decide +kernel
theorem dX6_shared_10 : decode cX6_shared 10 = .ok (.iload_n 2, 1) := by decide +kernel
theorem dX6_shared_11 : decode cX6_shared 11 = .ok (.invokevirtual 99, 3) := by decide +kernel
theorem dX6_shared_14 : decode cX6_shared 14 = .ok (.ifCond .eq 7, 3) := by decide +kernel
theorem dX6_shared_17 : decode cX6_shared 17 = .ok (.iconst 1, 1) := by decide +kernel
theorem dX6_shared_18 : decode cX6_shared 18 = .ok (.goto 4, 3) := by decide +kernel
theorem dX6_shared_21 : decode cX6_shared 21 = .ok (.iconst 0, 1) := by decide +kernel
theorem dX6_shared_22 : decode cX6_shared 22 = .ok (.iconst 1, 1) := by decide +kernel
theorem dX6_shared_23 : decode cX6_shared 23 = .ok (.iconst 1, 1) := by decide +kernel
theorem dX6_shared_24 : decode cX6_shared 24 = .ok (.invokevirtual 95, 3) := by decide +kernel
theorem dX6_shared_27 : decode cX6_shared 27 = .ok (.ifCond .eq 12, 3) := by decide +kernel
theorem dX6_shared_30 : decode cX6_shared 30 = .ok (.aload_n 0, 1) := by decide +kernel
theorem dX6_shared_31 : decode cX6_shared 31 = .ok (.iload_n 1, 1) := by decide +kernel
theorem dX6_shared_32 : decode cX6_shared 32 = .ok (.iload_n 2, 1) := by decide +kernel
theorem dX6_shared_33 : decode cX6_shared 33 = .ok (.invokevirtual 128, 3) := by decide +kernel
theorem dX6_shared_36 : decode cX6_shared 36 = .ok (.goto 4, 3) := by decide +kernel
theorem dX6_shared_39 : decode cX6_shared 39 = .ok (.iconst 0, 1) := by decide +kernel
theorem dX6_shared_40 : decode cX6_shared 40 = .ok (.ireturn, 1) := by decide +kernel
set_option maxRecDepth 20000 in
theorem ggX6_houseOf_X6_isCopy : GoodIn wsX6_houseOf wsX6_isCopy := goodIn_r _ [6, 7, 8, 9, 5, 10, 16, 17, 18, 19, 20, 21, 22, 23, 24, 25, 26, 27, 28, 29, 30, 31, 32, 33, 34, 35, 36, 37, 38, 39, 40, 41] (by decide +kernel) (by decide +kernel)
set_option maxRecDepth 20000 in
theorem gX6_houseOf_X6_isCopy : GoodIn wsX6_houseOf (wsV RX6 99 RX6 yX6_isCopy wsX6_isCopy) := goodIn_app (goodIn_of _ (by decide +kernel)) ggX6_houseOf_X6_isCopy
set_option maxRecDepth 20000 in
theorem ggX6_houseOf_X6_goes : GoodIn wsX6_houseOf wsX6_goes := goodIn_r _ [14, 15, 16, 17, 18, 19, 20, 21, 22, 23, 24, 25, 26, 27, 28, 29, 30, 31, 32, 33, 34, 35, 36, 37, 38, 39, 40, 41] (by decide +kernel) (by decide +kernel)
set_option maxRecDepth 20000 in
theorem gX6_houseOf_X6_goes : GoodIn wsX6_houseOf (wsV RX6 95 RX6 yX6_goes wsX6_goes) := goodIn_app (goodIn_of _ (by decide +kernel)) ggX6_houseOf_X6_goes
theorem dX6_houseOf_0 : decode cX6_houseOf 0 = .ok (.aload_n 0, 1) := by decide +kernel
theorem dX6_houseOf_1 : decode cX6_houseOf 1 = .ok (.aload_n 0, 1) := by decide +kernel
theorem dX6_houseOf_2 : decode cX6_houseOf 2 = .ok (.iload_n 1, 1) := by decide +kernel
theorem dX6_houseOf_3 : decode cX6_houseOf 3 = .ok (.invokevirtual 99, 3) := by decide +kernel
theorem dX6_houseOf_6 : decode cX6_houseOf 6 = .ok (.iconst 1, 1) := by decide +kernel
theorem dX6_houseOf_7 : decode cX6_houseOf 7 = .ok (.iconst 1, 1) := by decide +kernel
theorem dX6_houseOf_8 : decode cX6_houseOf 8 = .ok (.invokevirtual 95, 3) := by decide +kernel
theorem dX6_houseOf_11 : decode cX6_houseOf 11 = .ok (.ifCond .eq 12, 3) := by decide +kernel
theorem dX6_houseOf_14 : decode cX6_houseOf 14 = .ok (.aload_n 0, 1) := by decide +kernel
theorem dX6_houseOf_15 : decode cX6_houseOf 15 = .ok (.getfield 23, 3) := by decide +kernel
theorem dX6_houseOf_18 : decode cX6_houseOf 18 = .ok (.iload_n 1, 1) := by decide +kernel
theorem dX6_houseOf_19 : decode cX6_houseOf 19 = .ok (.iaload, 1) := by decide +kernel
theorem dX6_houseOf_20 : decode cX6_houseOf 20 = .ok (.goto 4, 3) := by decide +kernel
theorem dX6_houseOf_23 : decode cX6_houseOf 23 = .ok (.iconst 0, 1) := by decide +kernel
theorem dX6_houseOf_24 : decode cX6_houseOf 24 = .ok (.ireturn, 1) := by decide +kernel
set_option maxRecDepth 20000 in
theorem ggX6_ownerOf_X6_isCopy : GoodIn wsX6_ownerOf wsX6_isCopy := goodIn_r _ [6, 7, 8, 9, 5, 10, 16, 17, 18, 19, 20, 21, 22, 23, 24, 25, 26, 27, 28, 29, 30, 31, 32, 33, 34, 35, 36, 37, 38, 39, 40, 41] (by decide +kernel) (by decide +kernel)
set_option maxRecDepth 20000 in
theorem gX6_ownerOf_X6_isCopy : GoodIn wsX6_ownerOf (wsV RX6 99 RX6 yX6_isCopy wsX6_isCopy) := goodIn_app (goodIn_of _ (by decide +kernel)) ggX6_ownerOf_X6_isCopy
set_option maxRecDepth 20000 in
theorem ggX6_ownerOf_X6_goes : GoodIn wsX6_ownerOf wsX6_goes := goodIn_r _ [14, 15, 16, 17, 18, 19, 20, 21, 22, 23, 24, 25, 26, 27, 28, 29, 30, 31, 32, 33, 34, 35, 36, 37, 38, 39, 40, 41] (by decide +kernel) (by decide +kernel)
set_option maxRecDepth 20000 in
theorem gX6_ownerOf_X6_goes : GoodIn wsX6_ownerOf (wsV RX6 95 RX6 yX6_goes wsX6_goes) := goodIn_app (goodIn_of _ (by decide +kernel)) ggX6_ownerOf_X6_goes
theorem dX6_ownerOf_0 : decode cX6_ownerOf 0 = .ok (.aload_n 0, 1) := by decide +kernel
theorem dX6_ownerOf_1 : decode cX6_ownerOf 1 = .ok (.aload_n 0, 1) := by decide +kernel
theorem dX6_ownerOf_2 : decode cX6_ownerOf 2 = .ok (.iload_n 1, 1) := by decide +kernel
theorem dX6_ownerOf_3 : decode cX6_ownerOf 3 = .ok (.invokevirtual 99, 3) := by decide +kernel
theorem dX6_ownerOf_6 : decode cX6_ownerOf 6 = .ok (.iconst 1, 1) := by decide +kernel
theorem dX6_ownerOf_7 : decode cX6_ownerOf 7 = .ok (.iconst 1, 1) := by decide +kernel
theorem dX6_ownerOf_8 : decode cX6_ownerOf 8 = .ok (.invokevirtual 95, 3) := by decide +kernel
theorem dX6_ownerOf_11 : decode cX6_ownerOf 11 = .ok (.ifCond .eq 12, 3) := by decide +kernel
theorem dX6_ownerOf_14 : decode cX6_ownerOf 14 = .ok (.aload_n 0, 1) := by decide +kernel
theorem dX6_ownerOf_15 : decode cX6_ownerOf 15 = .ok (.getfield 20, 3) := by decide +kernel
theorem dX6_ownerOf_18 : decode cX6_ownerOf 18 = .ok (.iload_n 1, 1) := by decide +kernel
theorem dX6_ownerOf_19 : decode cX6_ownerOf 19 = .ok (.iaload, 1) := by decide +kernel
theorem dX6_ownerOf_20 : decode cX6_ownerOf 20 = .ok (.goto 4, 3) := by decide +kernel
theorem dX6_ownerOf_23 : decode cX6_ownerOf 23 = .ok (.iconst 0, 1) := by decide +kernel
theorem dX6_ownerOf_24 : decode cX6_ownerOf 24 = .ok (.ireturn, 1) := by decide +kernel
set_option maxRecDepth 20000 in
theorem ggX6_toldModel_X6_isCopy : GoodIn wsX6_toldModel wsX6_isCopy := goodIn_r _ [7, 8, 9, 10, 6, 11, 17, 18, 19, 20, 21, 22, 23, 24, 25, 26, 27, 28, 29, 30, 31, 32, 33, 34, 35, 36, 37, 38, 39, 40, 41, 42] (by decide +kernel) (by decide +kernel)
set_option maxRecDepth 20000 in
theorem gX6_toldModel_X6_isCopy : GoodIn wsX6_toldModel (wsV RX6 99 RX6 yX6_isCopy wsX6_isCopy) := goodIn_app (goodIn_of _ (by decide +kernel)) ggX6_toldModel_X6_isCopy
set_option maxRecDepth 20000 in
theorem ggX6_toldModel_X6_goes : GoodIn wsX6_toldModel wsX6_goes := goodIn_r _ [15, 16, 17, 18, 19, 20, 21, 22, 23, 24, 25, 26, 27, 28, 29, 30, 31, 32, 33, 34, 35, 36, 37, 38, 39, 40, 41, 42] (by decide +kernel) (by decide +kernel)
set_option maxRecDepth 20000 in
theorem gX6_toldModel_X6_goes : GoodIn wsX6_toldModel (wsV RX6 95 RX6 yX6_goes wsX6_goes) := goodIn_app (goodIn_of _ (by decide +kernel)) ggX6_toldModel_X6_goes
theorem dX6_toldModel_0 : decode cX6_toldModel 0 = .ok (.aload_n 0, 1) := by decide +kernel
theorem dX6_toldModel_1 : decode cX6_toldModel 1 = .ok (.aload_n 0, 1) := by decide +kernel
theorem dX6_toldModel_2 : decode cX6_toldModel 2 = .ok (.iload_n 1, 1) := by decide +kernel
theorem dX6_toldModel_3 : decode cX6_toldModel 3 = .ok (.invokevirtual 99, 3) := by decide +kernel
theorem dX6_toldModel_6 : decode cX6_toldModel 6 = .ok (.iconst 1, 1) := by decide +kernel
theorem dX6_toldModel_7 : decode cX6_toldModel 7 = .ok (.iconst 1, 1) := by decide +kernel
theorem dX6_toldModel_8 : decode cX6_toldModel 8 = .ok (.invokevirtual 95, 3) := by decide +kernel
theorem dX6_toldModel_11 : decode cX6_toldModel 11 = .ok (.ifCond .eq 25, 3) := by decide +kernel
theorem dX6_toldModel_14 : decode cX6_toldModel 14 = .ok (.aload_n 0, 1) := by decide +kernel
theorem dX6_toldModel_15 : decode cX6_toldModel 15 = .ok (.getfield 16, 3) := by decide +kernel
theorem dX6_toldModel_18 : decode cX6_toldModel 18 = .ok (.iload_n 1, 1) := by decide +kernel
theorem dX6_toldModel_19 : decode cX6_toldModel 19 = .ok (.baload, 1) := by decide +kernel
theorem dX6_toldModel_20 : decode cX6_toldModel 20 = .ok (.ifCond .eq 12, 3) := by decide +kernel
theorem dX6_toldModel_23 : decode cX6_toldModel 23 = .ok (.aload_n 0, 1) := by decide +kernel
theorem dX6_toldModel_24 : decode cX6_toldModel 24 = .ok (.getfield 13, 3) := by decide +kernel
theorem dX6_toldModel_27 : decode cX6_toldModel 27 = .ok (.iload_n 1, 1) := by decide +kernel
theorem dX6_toldModel_28 : decode cX6_toldModel 28 = .ok (.iaload, 1) := by decide +kernel
theorem dX6_toldModel_29 : decode cX6_toldModel 29 = .ok (.goto 8, 3) := by decide +kernel
theorem dX6_toldModel_32 : decode cX6_toldModel 32 = .ok (.iconst (-1), 1) := by decide +kernel
theorem dX6_toldModel_33 : decode cX6_toldModel 33 = .ok (.goto 4, 3) := by decide +kernel
theorem dX6_toldModel_36 : decode cX6_toldModel 36 = .ok (.iconst 0, 1) := by decide +kernel
theorem dX6_toldModel_37 : decode cX6_toldModel 37 = .ok (.ireturn, 1) := by decide +kernel
set_option maxRecDepth 20000 in
theorem ggX6_slips_X6_isScribe : GoodIn wsX6_slips wsX6_isScribe := goodIn_r _ [5, 6, 7, 4, 8] (by decide +kernel) (by decide +kernel)
set_option maxRecDepth 20000 in
theorem gX6_slips_X6_isScribe : GoodIn wsX6_slips (va_wsS RX6 102 yX6_isScribe wsX6_isScribe) := goodIn_app (goodIn_of _ (by decide +kernel)) ggX6_slips_X6_isScribe
set_option maxRecDepth 20000 in
theorem ggX6_slips_X6_goes : GoodIn wsX6_slips wsX6_goes := goodIn_r _ [12, 13, 14, 15, 16, 17, 18, 19, 20, 21, 22, 23, 24, 25, 26, 27, 28, 29, 30, 31, 32, 33, 34, 35, 36, 37, 38, 39] (by decide +kernel) (by decide +kernel)
set_option maxRecDepth 20000 in
theorem gX6_slips_X6_goes : GoodIn wsX6_slips (wsV RX6 95 RX6 yX6_goes wsX6_goes) := goodIn_app (goodIn_of _ (by decide +kernel)) ggX6_slips_X6_goes
theorem dX6_slips_0 : decode cX6_slips 0 = .ok (.aload_n 0, 1) := by decide +kernel
theorem dX6_slips_1 : decode cX6_slips 1 = .ok (.iload_n 1, 1) := by decide +kernel
theorem dX6_slips_2 : decode cX6_slips 2 = .ok (.invokestatic 102, 3) := by decide +kernel
theorem dX6_slips_5 : decode cX6_slips 5 = .ok (.iconst 1, 1) := by decide +kernel
theorem dX6_slips_6 : decode cX6_slips 6 = .ok (.iconst 1, 1) := by decide +kernel
theorem dX6_slips_7 : decode cX6_slips 7 = .ok (.invokevirtual 95, 3) := by decide +kernel
theorem dX6_slips_10 : decode cX6_slips 10 = .ok (.ifCond .eq 12, 3) := by decide +kernel
theorem dX6_slips_13 : decode cX6_slips 13 = .ok (.aload_n 0, 1) := by decide +kernel
theorem dX6_slips_14 : decode cX6_slips 14 = .ok (.getfield 33, 3) := by decide +kernel
theorem dX6_slips_17 : decode cX6_slips 17 = .ok (.iload_n 1, 1) := by decide +kernel
theorem dX6_slips_18 : decode cX6_slips 18 = .ok (.iaload, 1) := by decide +kernel
theorem dX6_slips_19 : decode cX6_slips 19 = .ok (.goto 4, 3) := by decide +kernel
theorem dX6_slips_22 : decode cX6_slips 22 = .ok (.iconst 0, 1) := by decide +kernel
theorem dX6_slips_23 : decode cX6_slips 23 = .ok (.ireturn, 1) := by decide +kernel
set_option maxRecDepth 20000 in
theorem ggX6_areKin_X6_share : GoodIn wsX6_areKin wsX6_share := goodIn_r _ [7, 8, 9, 10, 11, 12, 13, 14, 15, 16, 17, 18, 19, 20, 21, 22, 23, 24, 25, 26, 27, 28, 29, 30, 31, 32, 33, 34] (by decide +kernel) (by decide +kernel)
set_option maxRecDepth 20000 in
theorem gX6_areKin_X6_share : GoodIn wsX6_areKin (wsV RX6 128 RX6 yX6_share wsX6_share) := goodIn_app (goodIn_of _ (by decide +kernel)) ggX6_areKin_X6_share
theorem dX6_areKin_0 : decode cX6_areKin 0 = .ok (.aload_n 0, 1) := by decide +kernel
theorem dX6_areKin_1 : decode cX6_areKin 1 = .ok (.iload_n 1, 1) := by decide +kernel
theorem dX6_areKin_2 : decode cX6_areKin 2 = .ok (.iload_n 2, 1) := by decide +kernel
theorem dX6_areKin_3 : decode cX6_areKin 3 = .ok (.invokevirtual 128, 3) := by decide +kernel
theorem dX6_areKin_6 : decode cX6_areKin 6 = .ok (.ifCond .gt 41, 3) := by decide +kernel
theorem dX6_areKin_9 : decode cX6_areKin 9 = .ok (.aload_n 0, 1) := by decide +kernel
theorem dX6_areKin_10 : decode cX6_areKin 10 = .ok (.getfield 16, 3) := by decide +kernel
theorem dX6_areKin_13 : decode cX6_areKin 13 = .ok (.iload_n 1, 1) := by decide +kernel
theorem dX6_areKin_14 : decode cX6_areKin 14 = .ok (.baload, 1) := by decide +kernel
theorem dX6_areKin_15 : decode cX6_areKin 15 = .ok (.ifCond .eq 13, 3) := by decide +kernel
theorem dX6_areKin_18 : decode cX6_areKin 18 = .ok (.aload_n 0, 1) := by decide +kernel
theorem dX6_areKin_19 : decode cX6_areKin 19 = .ok (.getfield 13, 3) := by decide +kernel
theorem dX6_areKin_22 : decode cX6_areKin 22 = .ok (.iload_n 1, 1) := by decide +kernel
theorem dX6_areKin_23 : decode cX6_areKin 23 = .ok (.iaload, 1) := by decide +kernel
theorem dX6_areKin_24 : decode cX6_areKin 24 = .ok (.iload_n 2, 1) := by decide +kernel
theorem dX6_areKin_25 : decode cX6_areKin 25 = .ok (.if_icmp .eq 22, 3) := by decide +kernel
theorem dX6_areKin_28 : decode cX6_areKin 28 = .ok (.aload_n 0, 1) := by decide +kernel
theorem dX6_areKin_29 : decode cX6_areKin 29 = .ok (.getfield 16, 3) := by decide +kernel
theorem dX6_areKin_32 : decode cX6_areKin 32 = .ok (.iload_n 2, 1) := by decide +kernel
theorem dX6_areKin_33 : decode cX6_areKin 33 = .ok (.baload, 1) := by decide +kernel
theorem dX6_areKin_34 : decode cX6_areKin 34 = .ok (.ifCond .eq 17, 3) := by decide +kernel
theorem dX6_areKin_37 : decode cX6_areKin 37 = .ok (.aload_n 0, 1) := by decide +kernel
theorem dX6_areKin_38 : decode cX6_areKin 38 = .ok (.getfield 13, 3) := by decide +kernel
theorem dX6_areKin_41 : decode cX6_areKin 41 = .ok (.iload_n 2, 1) := by decide +kernel
theorem dX6_areKin_42 : decode cX6_areKin 42 = .ok (.iaload, 1) := by decide +kernel
theorem dX6_areKin_43 : decode cX6_areKin 43 = .ok (.iload_n 1, 1) := by decide +kernel
theorem dX6_areKin_44 : decode cX6_areKin 44 = .ok (.if_icmp .ne 7, 3) := by decide +kernel
theorem dX6_areKin_47 : decode cX6_areKin 47 = .ok (.iconst 1, 1) := by decide +kernel
theorem dX6_areKin_48 : decode cX6_areKin 48 = .ok (.goto 4, 3) := by decide +kernel
theorem dX6_areKin_51 : decode cX6_areKin 51 = .ok (.iconst 0, 1) := by decide +kernel
theorem dX6_areKin_52 : decode cX6_areKin 52 = .ok (.ireturn, 1) := by decide +kernel
set_option maxRecDepth 20000 in
theorem ggX6_sorts_X6_areKin : GoodIn wsX6_sorts wsX6_areKin := goodIn_r _ [7, 8, 9, 10, 11, 12, 6, 13, 14, 15, 16, 17, 18, 19, 20, 21, 22, 23, 24, 25, 26, 27, 28, 29, 30, 31, 32, 33, 34, 35, 36, 37, 38, 39, 40] (by decide +kernel) (by decide +kernel)
set_option maxRecDepth 20000 in
theorem gX6_sorts_X6_areKin : GoodIn wsX6_sorts (wsV RX6 132 RX6 yX6_areKin wsX6_areKin) := goodIn_app (goodIn_of _ (by decide +kernel)) ggX6_sorts_X6_areKin
theorem dX6_sorts_0 : decode cX6_sorts 0 = .ok (.iconst 0, 1) := by decide +kernel
theorem dX6_sorts_1 : decode cX6_sorts 1 = .ok (.istore_n 1, 1) := by decide +kernel
theorem dX6_sorts_2 : decode cX6_sorts 2 = .ok (.iload_n 1, 1) := by decide +kernel
theorem dX6_sorts_3 : decode cX6_sorts 3 = .ok (.aload_n 0, 1) := by decide +kernel
theorem dX6_sorts_4 : decode cX6_sorts 4 = .ok (.getfield 26, 3) := by decide +kernel
theorem dX6_sorts_7 : decode cX6_sorts 7 = .ok (.if_icmp .ge 16, 3) := by decide +kernel
theorem dX6_sorts_10 : decode cX6_sorts 10 = .ok (.aload_n 0, 1) := by decide +kernel
theorem dX6_sorts_11 : decode cX6_sorts 11 = .ok (.getfield 72, 3) := by decide +kernel
theorem dX6_sorts_14 : decode cX6_sorts 14 = .ok (.iload_n 1, 1) := by decide +kernel
theorem dX6_sorts_15 : decode cX6_sorts 15 = .ok (.iload_n 1, 1) := by decide +kernel
theorem dX6_sorts_16 : decode cX6_sorts 16 = .ok (.iastore, 1) := by decide +kernel
theorem dX6_sorts_17 : decode cX6_sorts 17 = .ok (.iinc 1 1, 3) := by decide +kernel
theorem dX6_sorts_20 : decode cX6_sorts 20 = .ok (.goto (-18), 3) := by decide +kernel
theorem dX6_sorts_23 : decode cX6_sorts 23 = .ok (.iconst 1, 1) := by decide +kernel
theorem dX6_sorts_24 : decode cX6_sorts 24 = .ok (.istore_n 1, 1) := by decide +kernel
theorem dX6_sorts_25 : decode cX6_sorts 25 = .ok (.iload_n 1, 1) := by decide +kernel
theorem dX6_sorts_26 : decode cX6_sorts 26 = .ok (.ifCond .eq 78, 3) := by decide +kernel
theorem dX6_sorts_29 : decode cX6_sorts 29 = .ok (.iconst 0, 1) := by decide +kernel
theorem dX6_sorts_30 : decode cX6_sorts 30 = .ok (.istore_n 1, 1) := by decide +kernel
theorem dX6_sorts_31 : decode cX6_sorts 31 = .ok (.iconst 0, 1) := by decide +kernel
theorem dX6_sorts_32 : decode cX6_sorts 32 = .ok (.istore_n 2, 1) := by decide +kernel
theorem dX6_sorts_33 : decode cX6_sorts 33 = .ok (.iload_n 2, 1) := by decide +kernel
theorem dX6_sorts_34 : decode cX6_sorts 34 = .ok (.aload_n 0, 1) := by decide +kernel
theorem dX6_sorts_35 : decode cX6_sorts 35 = .ok (.getfield 26, 3) := by decide +kernel
theorem dX6_sorts_38 : decode cX6_sorts 38 = .ok (.if_icmp .ge 63, 3) := by decide +kernel
theorem dX6_sorts_41 : decode cX6_sorts 41 = .ok (.iconst 0, 1) := by decide +kernel
theorem dX6_sorts_42 : decode cX6_sorts 42 = .ok (.istore_n 3, 1) := by decide +kernel
theorem dX6_sorts_43 : decode cX6_sorts 43 = .ok (.iload_n 3, 1) := by decide +kernel
theorem dX6_sorts_44 : decode cX6_sorts 44 = .ok (.aload_n 0, 1) := by decide +kernel
theorem dX6_sorts_45 : decode cX6_sorts 45 = .ok (.getfield 26, 3) := by decide +kernel
theorem dX6_sorts_48 : decode cX6_sorts 48 = .ok (.if_icmp .ge 47, 3) := by decide +kernel
theorem dX6_sorts_51 : decode cX6_sorts 51 = .ok (.aload_n 0, 1) := by decide +kernel
theorem dX6_sorts_52 : decode cX6_sorts 52 = .ok (.getfield 72, 3) := by decide +kernel
theorem dX6_sorts_55 : decode cX6_sorts 55 = .ok (.iload_n 3, 1) := by decide +kernel
theorem dX6_sorts_56 : decode cX6_sorts 56 = .ok (.iaload, 1) := by decide +kernel
theorem dX6_sorts_57 : decode cX6_sorts 57 = .ok (.aload_n 0, 1) := by decide +kernel
theorem dX6_sorts_58 : decode cX6_sorts 58 = .ok (.getfield 72, 3) := by decide +kernel
theorem dX6_sorts_61 : decode cX6_sorts 61 = .ok (.iload_n 2, 1) := by decide +kernel
theorem dX6_sorts_62 : decode cX6_sorts 62 = .ok (.iaload, 1) := by decide +kernel
theorem dX6_sorts_63 : decode cX6_sorts 63 = .ok (.if_icmp .ge 26, 3) := by decide +kernel
theorem dX6_sorts_66 : decode cX6_sorts 66 = .ok (.aload_n 0, 1) := by decide +kernel
theorem dX6_sorts_67 : decode cX6_sorts 67 = .ok (.iload_n 2, 1) := by decide +kernel
theorem dX6_sorts_68 : decode cX6_sorts 68 = .ok (.iload_n 3, 1) := by decide +kernel
theorem dX6_sorts_69 : decode cX6_sorts 69 = .ok (.invokevirtual 132, 3) := by decide +kernel
theorem dX6_sorts_72 : decode cX6_sorts 72 = .ok (.ifCond .eq 17, 3) := by decide +kernel
theorem dX6_sorts_75 : decode cX6_sorts 75 = .ok (.aload_n 0, 1) := by decide +kernel
theorem dX6_sorts_76 : decode cX6_sorts 76 = .ok (.getfield 72, 3) := by decide +kernel
theorem dX6_sorts_79 : decode cX6_sorts 79 = .ok (.iload_n 2, 1) := by decide +kernel
theorem dX6_sorts_80 : decode cX6_sorts 80 = .ok (.aload_n 0, 1) := by decide +kernel
theorem dX6_sorts_81 : decode cX6_sorts 81 = .ok (.getfield 72, 3) := by decide +kernel
theorem dX6_sorts_84 : decode cX6_sorts 84 = .ok (.iload_n 3, 1) := by decide +kernel
theorem dX6_sorts_85 : decode cX6_sorts 85 = .ok (.iaload, 1) := by decide +kernel
theorem dX6_sorts_86 : decode cX6_sorts 86 = .ok (.iastore, 1) := by decide +kernel
theorem dX6_sorts_87 : decode cX6_sorts 87 = .ok (.iconst 1, 1) := by decide +kernel
theorem dX6_sorts_88 : decode cX6_sorts 88 = .ok (.istore_n 1, 1) := by decide +kernel
theorem dX6_sorts_89 : decode cX6_sorts 89 = .ok (.iinc 3 1, 3) := by decide +kernel
theorem dX6_sorts_92 : decode cX6_sorts 92 = .ok (.goto (-49), 3) := by decide +kernel
theorem dX6_sorts_95 : decode cX6_sorts 95 = .ok (.iinc 2 1, 3) := by decide +kernel
theorem dX6_sorts_98 : decode cX6_sorts 98 = .ok (.goto (-65), 3) := by decide +kernel
theorem dX6_sorts_101 : decode cX6_sorts 101 = .ok (.goto (-76), 3) := by decide +kernel
theorem dX6_sorts_104 : decode cX6_sorts 104 = .ok (.return_, 1) := by decide +kernel
set_option maxRecDepth 20000 in
theorem ggX6_family_X6_isCopy : GoodIn wsX6_family wsX6_isCopy := goodIn_r _ [6, 7, 8, 9, 5, 10, 31, 32, 33, 34, 35, 36, 37, 38, 39, 40, 41, 42, 43, 44, 45, 46, 47, 48, 49, 50, 51, 52, 53, 54, 55, 56] (by decide +kernel) (by decide +kernel)
set_option maxRecDepth 20000 in
theorem gX6_family_X6_isCopy : GoodIn wsX6_family (wsV RX6 99 RX6 yX6_isCopy wsX6_isCopy) := goodIn_app (goodIn_of _ (by decide +kernel)) ggX6_family_X6_isCopy
set_option maxRecDepth 20000 in
theorem ggX6_family_X6_goes : GoodIn wsX6_family wsX6_goes := goodIn_r _ [14, 15, 31, 32, 33, 34, 35, 36, 37, 38, 39, 40, 41, 42, 43, 44, 45, 46, 47, 48, 49, 50, 51, 52, 53, 54, 55, 56] (by decide +kernel) (by decide +kernel)
set_option maxRecDepth 20000 in
theorem gX6_family_X6_goes : GoodIn wsX6_family (wsV RX6 95 RX6 yX6_goes wsX6_goes) := goodIn_app (goodIn_of _ (by decide +kernel)) ggX6_family_X6_goes
set_option maxRecDepth 20000 in
theorem ggX6_family_X6_sorts : GoodIn wsX6_family wsX6_sorts := goodIn_r _ [19, 7, 1, 20, 21, 22, 5, 23, 24, 25, 26, 27, 28, 29, 30, 31, 32, 33, 34, 35, 36, 37, 38, 39, 40, 41, 42, 43, 44, 45, 46, 47, 48, 49, 50, 51, 52, 53, 54, 55, 56] (by decide +kernel) (by decide +kernel)
set_option maxRecDepth 20000 in
theorem gX6_family_X6_sorts : GoodIn wsX6_family (wsV RX6 108 RX6 yX6_sorts wsX6_sorts) := goodIn_app (goodIn_of _ (by decide +kernel)) ggX6_family_X6_sorts
theorem dX6_family_0 : decode cX6_family 0 = .ok (.aload_n 0, 1) := by decide +kernel
theorem dX6_family_1 : decode cX6_family 1 = .ok (.aload_n 0, 1) := by decide +kernel
theorem dX6_family_2 : decode cX6_family 2 = .ok (.iload_n 1, 1) := by decide +kernel
theorem dX6_family_3 : decode cX6_family 3 = .ok (.invokevirtual 99, 3) := by decide +kernel
theorem dX6_family_6 : decode cX6_family 6 = .ok (.iconst 1, 1) := by decide +kernel
theorem dX6_family_7 : decode cX6_family 7 = .ok (.iconst 1, 1) := by decide +kernel
theorem dX6_family_8 : decode cX6_family 8 = .ok (.invokevirtual 95, 3) := by decide +kernel
theorem dX6_family_11 : decode cX6_family 11 = .ok (.ifCond .ne 5, 3) := by decide +kernel
theorem dX6_family_14 : decode cX6_family 14 = .ok (.iconst 0, 1) := by decide +kernel
theorem dX6_family_15 : decode cX6_family 15 = .ok (.ireturn, 1) := by decide +kernel
theorem dX6_family_16 : decode cX6_family 16 = .ok (.aload_n 0, 1) := by decide +kernel
theorem dX6_family_17 : decode cX6_family 17 = .ok (.invokevirtual 108, 3) := by decide +kernel
theorem dX6_family_20 : decode cX6_family 20 = .ok (.aload_n 0, 1) := by decide +kernel
theorem dX6_family_21 : decode cX6_family 21 = .ok (.getfield 72, 3) := by decide +kernel
theorem dX6_family_24 : decode cX6_family 24 = .ok (.iload_n 1, 1) := by decide +kernel
theorem dX6_family_25 : decode cX6_family 25 = .ok (.iaload, 1) := by decide +kernel
theorem dX6_family_26 : decode cX6_family 26 = .ok (.ireturn, 1) := by decide +kernel
set_option maxRecDepth 20000 in
theorem ggX6_familyByErrors_X6_family : GoodIn wsX6_familyByErrors wsX6_family := goodIn_r _ [5, 6, 7, 8, 9, 4, 10, 11, 12, 13, 14, 15, 16, 17, 18, 19, 20, 21, 22, 23, 24, 25, 26, 27, 28, 29, 30, 31, 32, 33, 34, 35, 36, 37, 38, 39, 40, 41, 42, 43, 44, 45, 46, 47, 48, 49, 50, 51, 52, 53, 54, 55, 56, 57, 58, 59, 60] (by decide +kernel) (by decide +kernel)
set_option maxRecDepth 20000 in
theorem gX6_familyByErrors_X6_family : GoodIn wsX6_familyByErrors (wsV RX6 136 RX6 yX6_family wsX6_family) := goodIn_app (goodIn_of _ (by decide +kernel)) ggX6_familyByErrors_X6_family
theorem dX6_familyByErrors_0 : decode cX6_familyByErrors 0 = .ok (.aload_n 0, 1) := by decide +kernel
theorem dX6_familyByErrors_1 : decode cX6_familyByErrors 1 = .ok (.iload_n 1, 1) := by decide +kernel
theorem dX6_familyByErrors_2 : decode cX6_familyByErrors 2 = .ok (.invokevirtual 136, 3) := by decide +kernel
theorem dX6_familyByErrors_5 : decode cX6_familyByErrors 5 = .ok (.ireturn, 1) := by decide +kernel
set_option maxRecDepth 20000 in
theorem ggX6_families_X6_sorts : GoodIn wsX6_families wsX6_sorts := goodIn_r _ [8, 2, 3, 9, 10, 11, 7, 12, 13, 14, 15, 16, 17, 18, 19, 20, 21, 22, 23, 24, 25, 26, 27, 28, 29, 30, 31, 32, 33, 34, 35, 36, 37, 38, 39, 40, 41, 42, 43, 44, 45] (by decide +kernel) (by decide +kernel)
set_option maxRecDepth 20000 in
theorem gX6_families_X6_sorts : GoodIn wsX6_families (wsV RX6 108 RX6 yX6_sorts wsX6_sorts) := goodIn_app (goodIn_of _ (by decide +kernel)) ggX6_families_X6_sorts
theorem dX6_families_0 : decode cX6_families 0 = .ok (.aload_n 0, 1) := by decide +kernel
theorem dX6_families_1 : decode cX6_families 1 = .ok (.iconst 0, 1) := by decide +kernel
theorem dX6_families_2 : decode cX6_families 2 = .ok (.putfield 75, 3) := by decide +kernel
theorem dX6_families_5 : decode cX6_families 5 = .ok (.iconst 0, 1) := by decide +kernel
theorem dX6_families_6 : decode cX6_families 6 = .ok (.istore_n 1, 1) := by decide +kernel
theorem dX6_families_7 : decode cX6_families 7 = .ok (.aload_n 0, 1) := by decide +kernel
theorem dX6_families_8 : decode cX6_families 8 = .ok (.invokevirtual 108, 3) := by decide +kernel
theorem dX6_families_11 : decode cX6_families 11 = .ok (.iconst 0, 1) := by decide +kernel
theorem dX6_families_12 : decode cX6_families 12 = .ok (.istore_n 2, 1) := by decide +kernel
theorem dX6_families_13 : decode cX6_families 13 = .ok (.iload_n 2, 1) := by decide +kernel
theorem dX6_families_14 : decode cX6_families 14 = .ok (.aload_n 0, 1) := by decide +kernel
theorem dX6_families_15 : decode cX6_families 15 = .ok (.getfield 26, 3) := by decide +kernel
theorem dX6_families_18 : decode cX6_families 18 = .ok (.if_icmp .ge 27, 3) := by decide +kernel
theorem dX6_families_21 : decode cX6_families 21 = .ok (.iload_n 1, 1) := by decide +kernel
theorem dX6_families_22 : decode cX6_families 22 = .ok (.aload_n 0, 1) := by decide +kernel
theorem dX6_families_23 : decode cX6_families 23 = .ok (.getfield 72, 3) := by decide +kernel
theorem dX6_families_26 : decode cX6_families 26 = .ok (.iload_n 2, 1) := by decide +kernel
theorem dX6_families_27 : decode cX6_families 27 = .ok (.iaload, 1) := by decide +kernel
theorem dX6_families_28 : decode cX6_families 28 = .ok (.iload_n 2, 1) := by decide +kernel
theorem dX6_families_29 : decode cX6_families 29 = .ok (.if_icmp .ne 7, 3) := by decide +kernel
theorem dX6_families_32 : decode cX6_families 32 = .ok (.iconst 1, 1) := by decide +kernel
theorem dX6_families_33 : decode cX6_families 33 = .ok (.goto 4, 3) := by decide +kernel
theorem dX6_families_36 : decode cX6_families 36 = .ok (.iconst 0, 1) := by decide +kernel
theorem dX6_families_37 : decode cX6_families 37 = .ok (.iadd, 1) := by decide +kernel
theorem dX6_families_38 : decode cX6_families 38 = .ok (.istore_n 1, 1) := by decide +kernel
theorem dX6_families_39 : decode cX6_families 39 = .ok (.iinc 2 1, 3) := by decide +kernel
theorem dX6_families_42 : decode cX6_families 42 = .ok (.goto (-29), 3) := by decide +kernel
theorem dX6_families_45 : decode cX6_families 45 = .ok (.iload_n 1, 1) := by decide +kernel
theorem dX6_families_46 : decode cX6_families 46 = .ok (.ireturn, 1) := by decide +kernel
set_option maxRecDepth 20000 in
theorem ggX6_guesses_X6_share : GoodIn wsX6_guesses wsX6_share := goodIn_r _ [7, 8, 13, 14, 15, 16, 17, 18, 19, 20, 21, 22, 23, 24, 25, 26, 27, 28, 29, 30, 31, 32, 33, 34, 35, 36, 37, 38] (by decide +kernel) (by decide +kernel)
set_option maxRecDepth 20000 in
theorem gX6_guesses_X6_share : GoodIn wsX6_guesses (wsV RX6 128 RX6 yX6_share wsX6_share) := goodIn_app (goodIn_of _ (by decide +kernel)) ggX6_guesses_X6_share
set_option maxRecDepth 20000 in
theorem ggX6_guesses_X6_errorsOf : GoodIn wsX6_guesses wsX6_errorsOf := goodIn_r _ [12, 8, 13, 14, 15, 16, 17, 18, 19, 20, 21, 22, 23, 24, 25, 26, 27, 28, 29, 30, 31, 32, 33, 34, 35, 36, 37, 38] (by decide +kernel) (by decide +kernel)
set_option maxRecDepth 20000 in
theorem gX6_guesses_X6_errorsOf : GoodIn wsX6_guesses (wsV RX6 125 RX6 yX6_errorsOf wsX6_errorsOf) := goodIn_app (goodIn_of _ (by decide +kernel)) ggX6_guesses_X6_errorsOf
theorem dX6_guesses_0 : decode cX6_guesses 0 = .ok (.iload_n 1, 1) := by decide +kernel
theorem dX6_guesses_1 : decode cX6_guesses 1 = .ok (.ifCond .eq 12, 3) := by decide +kernel
theorem dX6_guesses_4 : decode cX6_guesses 4 = .ok (.aload_n 0, 1) := by decide +kernel
theorem dX6_guesses_5 : decode cX6_guesses 5 = .ok (.getfield 16, 3) := by decide +kernel
theorem dX6_guesses_8 : decode cX6_guesses 8 = .ok (.iload_n 1, 1) := by decide +kernel
theorem dX6_guesses_9 : decode cX6_guesses 9 = .ok (.baload, 1) := by decide +kernel
theorem dX6_guesses_10 : decode cX6_guesses 10 = .ok (.ifCond .eq 10, 3) := by decide +kernel
theorem dX6_guesses_13 : decode cX6_guesses 13 = .ok (.aload_n 0, 1) := by decide +kernel
theorem dX6_guesses_14 : decode cX6_guesses 14 = .ok (.getfield 13, 3) := by decide +kernel
theorem dX6_guesses_17 : decode cX6_guesses 17 = .ok (.iload_n 1, 1) := by decide +kernel
theorem dX6_guesses_18 : decode cX6_guesses 18 = .ok (.iaload, 1) := by decide +kernel
theorem dX6_guesses_19 : decode cX6_guesses 19 = .ok (.ireturn, 1) := by decide +kernel
theorem dX6_guesses_20 : decode cX6_guesses 20 = .ok (.iconst 0, 1) := by decide +kernel
theorem dX6_guesses_21 : decode cX6_guesses 21 = .ok (.istore_n 2, 1) := by decide +kernel
theorem dX6_guesses_22 : decode cX6_guesses 22 = .ok (.iconst 0, 1) := by decide +kernel
theorem dX6_guesses_23 : decode cX6_guesses 23 = .ok (.istore_n 3, 1) := by decide +kernel
theorem dX6_guesses_24 : decode cX6_guesses 24 = .ok (.iconst 0, 1) := by decide +kernel
theorem dX6_guesses_25 : decode cX6_guesses 25 = .ok (.istore 4, 2) := by decide +kernel
theorem dX6_guesses_27 : decode cX6_guesses 27 = .ok (.iload 4, 2) := by decide +kernel
theorem dX6_guesses_29 : decode cX6_guesses 29 = .ok (.iload_n 1, 1) := by decide +kernel
theorem dX6_guesses_30 : decode cX6_guesses 30 = .ok (.if_icmp .ge 44, 3) := by decide +kernel
theorem dX6_guesses_33 : decode cX6_guesses 33 = .ok (.iconst 3, 1) := by decide +kernel
theorem dX6_guesses_34 : decode cX6_guesses 34 = .ok (.aload_n 0, 1) := by decide +kernel
theorem dX6_guesses_35 : decode cX6_guesses 35 = .ok (.iload_n 1, 1) := by decide +kernel
theorem dX6_guesses_36 : decode cX6_guesses 36 = .ok (.iload 4, 2) := by decide +kernel
theorem dX6_guesses_38 : decode cX6_guesses 38 = .ok (.invokevirtual 128, 3) := by decide +kernel
theorem dX6_guesses_41 : decode cX6_guesses 41 = .ok (.imul, 1) := by decide +kernel
theorem dX6_guesses_42 : decode cX6_guesses 42 = .ok (.aload_n 0, 1) := by decide +kernel
theorem dX6_guesses_43 : decode cX6_guesses 43 = .ok (.iload 4, 2) := by decide +kernel
theorem dX6_guesses_45 : decode cX6_guesses 45 = .ok (.invokevirtual 125, 3) := by decide +kernel
theorem dX6_guesses_48 : decode cX6_guesses 48 = .ok (.isub, 1) := by decide +kernel
theorem dX6_guesses_49 : decode cX6_guesses 49 = .ok (.istore 5, 2) := by decide +kernel
theorem dX6_guesses_51 : decode cX6_guesses 51 = .ok (.iload 4, 2) := by decide +kernel
theorem dX6_guesses_53 : decode cX6_guesses 53 = .ok (.ifCond .eq 9, 3) := by decide +kernel
theorem dX6_guesses_56 : decode cX6_guesses 56 = .ok (.iload 5, 2) := by decide +kernel
theorem dX6_guesses_58 : decode cX6_guesses 58 = .ok (.iload_n 3, 1) := by decide +kernel
theorem dX6_guesses_59 : decode cX6_guesses 59 = .ok (.if_icmp .le 9, 3) := by decide +kernel
theorem dX6_guesses_62 : decode cX6_guesses 62 = .ok (.iload 4, 2) := by decide +kernel
theorem dX6_guesses_64 : decode cX6_guesses 64 = .ok (.istore_n 2, 1) := by decide +kernel
theorem dX6_guesses_65 : decode cX6_guesses 65 = .ok (.iload 5, 2) := by decide +kernel
theorem dX6_guesses_67 : decode cX6_guesses 67 = .ok (.istore_n 3, 1) := by decide +kernel
theorem dX6_guesses_68 : decode cX6_guesses 68 = .ok (.iinc 4 1, 3) := by decide +kernel
theorem dX6_guesses_71 : decode cX6_guesses 71 = .ok (.goto (-44), 3) := by decide +kernel
theorem dX6_guesses_74 : decode cX6_guesses 74 = .ok (.iload_n 2, 1) := by decide +kernel
theorem dX6_guesses_75 : decode cX6_guesses 75 = .ok (.ireturn, 1) := by decide +kernel
set_option maxRecDepth 20000 in
theorem ggX6_guess_X6_isCopy : GoodIn wsX6_guess wsX6_isCopy := goodIn_r _ [5, 6, 7, 8, 4, 9, 30, 31, 32, 33, 34, 35, 36, 37, 38, 39, 40, 41, 42, 43, 44, 45, 46, 47, 48, 49, 50, 51, 52, 53, 54, 55] (by decide +kernel) (by decide +kernel)
set_option maxRecDepth 20000 in
theorem gX6_guess_X6_isCopy : GoodIn wsX6_guess (wsV RX6 99 RX6 yX6_isCopy wsX6_isCopy) := goodIn_app (goodIn_of _ (by decide +kernel)) ggX6_guess_X6_isCopy
set_option maxRecDepth 20000 in
theorem ggX6_guess_X6_goes : GoodIn wsX6_guess wsX6_goes := goodIn_r _ [13, 14, 30, 31, 32, 33, 34, 35, 36, 37, 38, 39, 40, 41, 42, 43, 44, 45, 46, 47, 48, 49, 50, 51, 52, 53, 54, 55] (by decide +kernel) (by decide +kernel)
set_option maxRecDepth 20000 in
theorem gX6_guess_X6_goes : GoodIn wsX6_guess (wsV RX6 95 RX6 yX6_goes wsX6_goes) := goodIn_app (goodIn_of _ (by decide +kernel)) ggX6_guess_X6_goes
set_option maxRecDepth 20000 in
theorem ggX6_guess_X6_guesses : GoodIn wsX6_guess wsX6_guesses := goodIn_r _ [18, 19, 20, 21, 22, 23, 4, 24, 25, 26, 27, 28, 29, 30, 31, 32, 33, 34, 35, 36, 37, 38, 39, 40, 41, 42, 43, 44, 45, 46, 47, 48, 49, 50, 51, 52, 53, 54, 55] (by decide +kernel) (by decide +kernel)
set_option maxRecDepth 20000 in
theorem gX6_guess_X6_guesses : GoodIn wsX6_guess (wsV RX6 139 RX6 yX6_guesses wsX6_guesses) := goodIn_app (goodIn_of _ (by decide +kernel)) ggX6_guess_X6_guesses
theorem dX6_guess_0 : decode cX6_guess 0 = .ok (.aload_n 0, 1) := by decide +kernel
theorem dX6_guess_1 : decode cX6_guess 1 = .ok (.aload_n 0, 1) := by decide +kernel
theorem dX6_guess_2 : decode cX6_guess 2 = .ok (.iload_n 1, 1) := by decide +kernel
theorem dX6_guess_3 : decode cX6_guess 3 = .ok (.invokevirtual 99, 3) := by decide +kernel
theorem dX6_guess_6 : decode cX6_guess 6 = .ok (.iconst 1, 1) := by decide +kernel
theorem dX6_guess_7 : decode cX6_guess 7 = .ok (.iconst 1, 1) := by decide +kernel
theorem dX6_guess_8 : decode cX6_guess 8 = .ok (.invokevirtual 95, 3) := by decide +kernel
theorem dX6_guess_11 : decode cX6_guess 11 = .ok (.ifCond .eq 11, 3) := by decide +kernel
theorem dX6_guess_14 : decode cX6_guess 14 = .ok (.aload_n 0, 1) := by decide +kernel
theorem dX6_guess_15 : decode cX6_guess 15 = .ok (.iload_n 1, 1) := by decide +kernel
theorem dX6_guess_16 : decode cX6_guess 16 = .ok (.invokevirtual 139, 3) := by decide +kernel
theorem dX6_guess_19 : decode cX6_guess 19 = .ok (.goto 4, 3) := by decide +kernel
theorem dX6_guess_22 : decode cX6_guess 22 = .ok (.iconst 0, 1) := by decide +kernel
theorem dX6_guess_23 : decode cX6_guess 23 = .ok (.ireturn, 1) := by decide +kernel
set_option maxRecDepth 20000 in
theorem ggX6_rightGuesses_X6_guesses : GoodIn wsX6_rightGuesses wsX6_guesses := goodIn_r _ [8, 9, 3, 10, 11, 12, 7, 13, 14, 15, 16, 17, 18, 19, 20, 21, 22, 23, 24, 25, 26, 27, 28, 29, 30, 31, 32, 33, 34, 35, 36, 37, 38, 39, 40, 41, 42, 43, 44] (by decide +kernel) (by decide +kernel)
set_option maxRecDepth 20000 in
theorem gX6_rightGuesses_X6_guesses : GoodIn wsX6_rightGuesses (wsV RX6 139 RX6 yX6_guesses wsX6_guesses) := goodIn_app (goodIn_of _ (by decide +kernel)) ggX6_rightGuesses_X6_guesses
theorem dX6_rightGuesses_0 : decode cX6_rightGuesses 0 = .ok (.aload_n 0, 1) := by decide +kernel
theorem dX6_rightGuesses_1 : decode cX6_rightGuesses 1 = .ok (.iconst 0, 1) := by decide +kernel
theorem dX6_rightGuesses_2 : decode cX6_rightGuesses 2 = .ok (.putfield 75, 3) := by decide +kernel
theorem dX6_rightGuesses_5 : decode cX6_rightGuesses 5 = .ok (.iconst 0, 1) := by decide +kernel
theorem dX6_rightGuesses_6 : decode cX6_rightGuesses 6 = .ok (.istore_n 1, 1) := by decide +kernel
theorem dX6_rightGuesses_7 : decode cX6_rightGuesses 7 = .ok (.iconst 1, 1) := by decide +kernel
theorem dX6_rightGuesses_8 : decode cX6_rightGuesses 8 = .ok (.istore_n 2, 1) := by decide +kernel
theorem dX6_rightGuesses_9 : decode cX6_rightGuesses 9 = .ok (.iload_n 2, 1) := by decide +kernel
theorem dX6_rightGuesses_10 : decode cX6_rightGuesses 10 = .ok (.aload_n 0, 1) := by decide +kernel
theorem dX6_rightGuesses_11 : decode cX6_rightGuesses 11 = .ok (.getfield 26, 3) := by decide +kernel
theorem dX6_rightGuesses_14 : decode cX6_rightGuesses 14 = .ok (.if_icmp .ge 31, 3) := by decide +kernel
theorem dX6_rightGuesses_17 : decode cX6_rightGuesses 17 = .ok (.iload_n 1, 1) := by decide +kernel
theorem dX6_rightGuesses_18 : decode cX6_rightGuesses 18 = .ok (.aload_n 0, 1) := by decide +kernel
theorem dX6_rightGuesses_19 : decode cX6_rightGuesses 19 = .ok (.iload_n 2, 1) := by decide +kernel
theorem dX6_rightGuesses_20 : decode cX6_rightGuesses 20 = .ok (.invokevirtual 139, 3) := by decide +kernel
theorem dX6_rightGuesses_23 : decode cX6_rightGuesses 23 = .ok (.aload_n 0, 1) := by decide +kernel
theorem dX6_rightGuesses_24 : decode cX6_rightGuesses 24 = .ok (.getfield 13, 3) := by decide +kernel
theorem dX6_rightGuesses_27 : decode cX6_rightGuesses 27 = .ok (.iload_n 2, 1) := by decide +kernel
theorem dX6_rightGuesses_28 : decode cX6_rightGuesses 28 = .ok (.iaload, 1) := by decide +kernel
theorem dX6_rightGuesses_29 : decode cX6_rightGuesses 29 = .ok (.if_icmp .ne 7, 3) := by decide +kernel
theorem dX6_rightGuesses_32 : decode cX6_rightGuesses 32 = .ok (.iconst 1, 1) := by decide +kernel
theorem dX6_rightGuesses_33 : decode cX6_rightGuesses 33 = .ok (.goto 4, 3) := by decide +kernel
theorem dX6_rightGuesses_36 : decode cX6_rightGuesses 36 = .ok (.iconst 0, 1) := by decide +kernel
theorem dX6_rightGuesses_37 : decode cX6_rightGuesses 37 = .ok (.iadd, 1) := by decide +kernel
theorem dX6_rightGuesses_38 : decode cX6_rightGuesses 38 = .ok (.istore_n 1, 1) := by decide +kernel
theorem dX6_rightGuesses_39 : decode cX6_rightGuesses 39 = .ok (.iinc 2 1, 3) := by decide +kernel
theorem dX6_rightGuesses_42 : decode cX6_rightGuesses 42 = .ok (.goto (-33), 3) := by decide +kernel
theorem dX6_rightGuesses_45 : decode cX6_rightGuesses 45 = .ok (.iload_n 1, 1) := by decide +kernel
theorem dX6_rightGuesses_46 : decode cX6_rightGuesses 46 = .ok (.ireturn, 1) := by decide +kernel
set_option maxRecDepth 20000 in
theorem ggX6_isError_X6_isPlace : GoodIn wsX6_isError wsX6_isPlace := goodIn_r _ [4, 5, 6, 3, 7] (by decide +kernel) (by decide +kernel)
set_option maxRecDepth 20000 in
theorem gX6_isError_X6_isPlace : GoodIn wsX6_isError (va_wsS RX6 88 yX6_isPlace wsX6_isPlace) := goodIn_app (goodIn_of _ (by decide +kernel)) ggX6_isError_X6_isPlace
set_option maxRecDepth 20000 in
theorem ggX6_isError_X6_in : GoodIn wsX6_isError wsX6_in := goodIn_r _ [7] (by decide +kernel) (by decide +kernel)
set_option maxRecDepth 20000 in
theorem gX6_isError_X6_in : GoodIn wsX6_isError (va_wsS RX6 78 yX6_in wsX6_in) := goodIn_app (goodIn_of _ (by decide +kernel)) ggX6_isError_X6_in
set_option maxRecDepth 20000 in
theorem ggX6_isError_X6_goes : GoodIn wsX6_isError wsX6_goes := goodIn_r _ [11, 12, 13, 14, 15, 16, 17, 18, 19, 20, 21, 22, 23, 24, 25, 26, 27, 28, 29, 30, 31, 32, 33, 34, 35, 36, 37, 38] (by decide +kernel) (by decide +kernel)
set_option maxRecDepth 20000 in
theorem gX6_isError_X6_goes : GoodIn wsX6_isError (wsV RX6 95 RX6 yX6_goes wsX6_goes) := goodIn_app (goodIn_of _ (by decide +kernel)) ggX6_isError_X6_goes
theorem dX6_isError_0 : decode cX6_isError 0 = .ok (.aload_n 0, 1) := by decide +kernel
theorem dX6_isError_1 : decode cX6_isError 1 = .ok (.iload_n 1, 1) := by decide +kernel
theorem dX6_isError_2 : decode cX6_isError 2 = .ok (.invokestatic 88, 3) := by decide +kernel
theorem dX6_isError_5 : decode cX6_isError 5 = .ok (.iload_n 2, 1) := by decide +kernel
theorem dX6_isError_6 : decode cX6_isError 6 = .ok (.iconst 1, 1) := by decide +kernel
theorem dX6_isError_7 : decode cX6_isError 7 = .ok (.bipush 9, 2) := by decide +kernel
theorem dX6_isError_9 : decode cX6_isError 9 = .ok (.invokestatic 78, 3) := by decide +kernel
theorem dX6_isError_12 : decode cX6_isError 12 = .ok (.iconst 1, 1) := by decide +kernel
theorem dX6_isError_13 : decode cX6_isError 13 = .ok (.invokevirtual 95, 3) := by decide +kernel
theorem dX6_isError_16 : decode cX6_isError 16 = .ok (.ireturn, 1) := by decide +kernel
set_option maxRecDepth 20000 in
theorem ggX6_spread_X6_isError : GoodIn wsX6_spread wsX6_isError := goodIn_r _ [7, 8, 9, 6, 10, 11, 12, 13, 14, 15, 16, 17, 18, 19, 20, 21, 22, 23, 24, 25, 26, 27, 28, 29, 30, 31, 32, 33, 34, 35, 36, 37, 38, 39, 40, 41, 42, 43, 44] (by decide +kernel) (by decide +kernel)
set_option maxRecDepth 20000 in
theorem gX6_spread_X6_isError : GoodIn wsX6_spread (wsV RX6 142 RX6 yX6_isError wsX6_isError) := goodIn_app (goodIn_of _ (by decide +kernel)) ggX6_spread_X6_isError
theorem dX6_spread_0 : decode cX6_spread 0 = .ok (.iconst 0, 1) := by decide +kernel
theorem dX6_spread_1 : decode cX6_spread 1 = .ok (.istore_n 3, 1) := by decide +kernel
theorem dX6_spread_2 : decode cX6_spread 2 = .ok (.aload_n 0, 1) := by decide +kernel
theorem dX6_spread_3 : decode cX6_spread 3 = .ok (.iload_n 1, 1) := by decide +kernel
theorem dX6_spread_4 : decode cX6_spread 4 = .ok (.iload_n 2, 1) := by decide +kernel
theorem dX6_spread_5 : decode cX6_spread 5 = .ok (.invokevirtual 142, 3) := by decide +kernel
theorem dX6_spread_8 : decode cX6_spread 8 = .ok (.istore 4, 2) := by decide +kernel
theorem dX6_spread_10 : decode cX6_spread 10 = .ok (.iconst 0, 1) := by decide +kernel
theorem dX6_spread_11 : decode cX6_spread 11 = .ok (.istore 5, 2) := by decide +kernel
theorem dX6_spread_13 : decode cX6_spread 13 = .ok (.iload 5, 2) := by decide +kernel
theorem dX6_spread_15 : decode cX6_spread 15 = .ok (.aload_n 0, 1) := by decide +kernel
theorem dX6_spread_16 : decode cX6_spread 16 = .ok (.getfield 26, 3) := by decide +kernel
theorem dX6_spread_19 : decode cX6_spread 19 = .ok (.if_icmp .ge 38, 3) := by decide +kernel
theorem dX6_spread_22 : decode cX6_spread 22 = .ok (.iload 4, 2) := by decide +kernel
theorem dX6_spread_24 : decode cX6_spread 24 = .ok (.ifCond .eq 33, 3) := by decide +kernel
theorem dX6_spread_27 : decode cX6_spread 27 = .ok (.iload_n 3, 1) := by decide +kernel
theorem dX6_spread_28 : decode cX6_spread 28 = .ok (.aload_n 0, 1) := by decide +kernel
theorem dX6_spread_29 : decode cX6_spread 29 = .ok (.getfield 7, 3) := by decide +kernel
theorem dX6_spread_32 : decode cX6_spread 32 = .ok (.bipush 24, 2) := by decide +kernel
theorem dX6_spread_34 : decode cX6_spread 34 = .ok (.iload 5, 2) := by decide +kernel
theorem dX6_spread_36 : decode cX6_spread 36 = .ok (.imul, 1) := by decide +kernel
theorem dX6_spread_37 : decode cX6_spread 37 = .ok (.iload_n 1, 1) := by decide +kernel
theorem dX6_spread_38 : decode cX6_spread 38 = .ok (.iadd, 1) := by decide +kernel
theorem dX6_spread_39 : decode cX6_spread 39 = .ok (.iaload, 1) := by decide +kernel
theorem dX6_spread_40 : decode cX6_spread 40 = .ok (.iload_n 2, 1) := by decide +kernel
theorem dX6_spread_41 : decode cX6_spread 41 = .ok (.if_icmp .ne 7, 3) := by decide +kernel
theorem dX6_spread_44 : decode cX6_spread 44 = .ok (.iconst 1, 1) := by decide +kernel
theorem dX6_spread_45 : decode cX6_spread 45 = .ok (.goto 4, 3) := by decide +kernel
theorem dX6_spread_48 : decode cX6_spread 48 = .ok (.iconst 0, 1) := by decide +kernel
theorem dX6_spread_49 : decode cX6_spread 49 = .ok (.iadd, 1) := by decide +kernel
theorem dX6_spread_50 : decode cX6_spread 50 = .ok (.istore_n 3, 1) := by decide +kernel
theorem dX6_spread_51 : decode cX6_spread 51 = .ok (.iinc 5 1, 3) := by decide +kernel
theorem dX6_spread_54 : decode cX6_spread 54 = .ok (.goto (-41), 3) := by decide +kernel
theorem dX6_spread_57 : decode cX6_spread 57 = .ok (.iload_n 3, 1) := by decide +kernel
theorem dX6_spread_58 : decode cX6_spread 58 = .ok (.ireturn, 1) := by decide +kernel
set_option maxRecDepth 20000 in
theorem ggX6_sources_X6_isError : GoodIn wsX6_sources wsX6_isError := goodIn_r _ [7, 8, 9, 6, 10, 11, 12, 13, 14, 15, 16, 17, 18, 33, 34, 35, 36, 37, 38, 39, 40, 41, 42, 43, 44, 45, 46, 47, 48, 49, 50, 51, 52, 53, 54, 55, 56, 57, 58] (by decide +kernel) (by decide +kernel)
set_option maxRecDepth 20000 in
theorem gX6_sources_X6_isError : GoodIn wsX6_sources (wsV RX6 142 RX6 yX6_isError wsX6_isError) := goodIn_app (goodIn_of _ (by decide +kernel)) ggX6_sources_X6_isError
set_option maxRecDepth 20000 in
theorem ggX6_sources_X6_guesses : GoodIn wsX6_sources wsX6_guesses := goodIn_r _ [22, 23, 24, 25, 26, 27, 6, 28, 2, 29, 30, 31, 32, 33, 34, 35, 36, 37, 38, 39, 40, 41, 42, 43, 44, 45, 46, 47, 48, 49, 50, 51, 52, 53, 54, 55, 56, 57, 58] (by decide +kernel) (by decide +kernel)
set_option maxRecDepth 20000 in
theorem gX6_sources_X6_guesses : GoodIn wsX6_sources (wsV RX6 139 RX6 yX6_guesses wsX6_guesses) := goodIn_app (goodIn_of _ (by decide +kernel)) ggX6_sources_X6_guesses
theorem dX6_sources_0 : decode cX6_sources 0 = .ok (.iconst 0, 1) := by decide +kernel
theorem dX6_sources_1 : decode cX6_sources 1 = .ok (.istore_n 3, 1) := by decide +kernel
theorem dX6_sources_2 : decode cX6_sources 2 = .ok (.aload_n 0, 1) := by decide +kernel
theorem dX6_sources_3 : decode cX6_sources 3 = .ok (.iload_n 1, 1) := by decide +kernel
theorem dX6_sources_4 : decode cX6_sources 4 = .ok (.iload_n 2, 1) := by decide +kernel
theorem dX6_sources_5 : decode cX6_sources 5 = .ok (.invokevirtual 142, 3) := by decide +kernel
theorem dX6_sources_8 : decode cX6_sources 8 = .ok (.istore 4, 2) := by decide +kernel
theorem dX6_sources_10 : decode cX6_sources 10 = .ok (.iconst 0, 1) := by decide +kernel
theorem dX6_sources_11 : decode cX6_sources 11 = .ok (.istore 5, 2) := by decide +kernel
theorem dX6_sources_13 : decode cX6_sources 13 = .ok (.iload 5, 2) := by decide +kernel
theorem dX6_sources_15 : decode cX6_sources 15 = .ok (.aload_n 0, 1) := by decide +kernel
theorem dX6_sources_16 : decode cX6_sources 16 = .ok (.getfield 26, 3) := by decide +kernel
theorem dX6_sources_19 : decode cX6_sources 19 = .ok (.if_icmp .ge 75, 3) := by decide +kernel
theorem dX6_sources_22 : decode cX6_sources 22 = .ok (.iload 4, 2) := by decide +kernel
theorem dX6_sources_24 : decode cX6_sources 24 = .ok (.ifCond .eq 70, 3) := by decide +kernel
theorem dX6_sources_27 : decode cX6_sources 27 = .ok (.aload_n 0, 1) := by decide +kernel
theorem dX6_sources_28 : decode cX6_sources 28 = .ok (.getfield 7, 3) := by decide +kernel
theorem dX6_sources_31 : decode cX6_sources 31 = .ok (.bipush 24, 2) := by decide +kernel
theorem dX6_sources_33 : decode cX6_sources 33 = .ok (.iload 5, 2) := by decide +kernel
theorem dX6_sources_35 : decode cX6_sources 35 = .ok (.imul, 1) := by decide +kernel
theorem dX6_sources_36 : decode cX6_sources 36 = .ok (.iload_n 1, 1) := by decide +kernel
theorem dX6_sources_37 : decode cX6_sources 37 = .ok (.iadd, 1) := by decide +kernel
theorem dX6_sources_38 : decode cX6_sources 38 = .ok (.iaload, 1) := by decide +kernel
theorem dX6_sources_39 : decode cX6_sources 39 = .ok (.iload_n 2, 1) := by decide +kernel
theorem dX6_sources_40 : decode cX6_sources 40 = .ok (.if_icmp .ne 7, 3) := by decide +kernel
theorem dX6_sources_43 : decode cX6_sources 43 = .ok (.iconst 1, 1) := by decide +kernel
theorem dX6_sources_44 : decode cX6_sources 44 = .ok (.goto 4, 3) := by decide +kernel
theorem dX6_sources_47 : decode cX6_sources 47 = .ok (.iconst 0, 1) := by decide +kernel
theorem dX6_sources_48 : decode cX6_sources 48 = .ok (.istore 6, 2) := by decide +kernel
theorem dX6_sources_50 : decode cX6_sources 50 = .ok (.iload_n 3, 1) := by decide +kernel
theorem dX6_sources_51 : decode cX6_sources 51 = .ok (.iload 6, 2) := by decide +kernel
theorem dX6_sources_53 : decode cX6_sources 53 = .ok (.ifCond .eq 32, 3) := by decide +kernel
theorem dX6_sources_56 : decode cX6_sources 56 = .ok (.iload 5, 2) := by decide +kernel
theorem dX6_sources_58 : decode cX6_sources 58 = .ok (.ifCond .eq 23, 3) := by decide +kernel
theorem dX6_sources_61 : decode cX6_sources 61 = .ok (.aload_n 0, 1) := by decide +kernel
theorem dX6_sources_62 : decode cX6_sources 62 = .ok (.getfield 7, 3) := by decide +kernel
theorem dX6_sources_65 : decode cX6_sources 65 = .ok (.bipush 24, 2) := by decide +kernel
theorem dX6_sources_67 : decode cX6_sources 67 = .ok (.aload_n 0, 1) := by decide +kernel
theorem dX6_sources_68 : decode cX6_sources 68 = .ok (.iload 5, 2) := by decide +kernel
theorem dX6_sources_70 : decode cX6_sources 70 = .ok (.invokevirtual 139, 3) := by decide +kernel
theorem dX6_sources_73 : decode cX6_sources 73 = .ok (.imul, 1) := by decide +kernel
theorem dX6_sources_74 : decode cX6_sources 74 = .ok (.iload_n 1, 1) := by decide +kernel
theorem dX6_sources_75 : decode cX6_sources 75 = .ok (.iadd, 1) := by decide +kernel
theorem dX6_sources_76 : decode cX6_sources 76 = .ok (.iaload, 1) := by decide +kernel
theorem dX6_sources_77 : decode cX6_sources 77 = .ok (.iload_n 2, 1) := by decide +kernel
theorem dX6_sources_78 : decode cX6_sources 78 = .ok (.if_icmp .eq 7, 3) := by decide +kernel
theorem dX6_sources_81 : decode cX6_sources 81 = .ok (.iconst 1, 1) := by decide +kernel
theorem dX6_sources_82 : decode cX6_sources 82 = .ok (.goto 4, 3) := by decide +kernel
theorem dX6_sources_85 : decode cX6_sources 85 = .ok (.iconst 0, 1) := by decide +kernel
theorem dX6_sources_86 : decode cX6_sources 86 = .ok (.iadd, 1) := by decide +kernel
theorem dX6_sources_87 : decode cX6_sources 87 = .ok (.istore_n 3, 1) := by decide +kernel
theorem dX6_sources_88 : decode cX6_sources 88 = .ok (.iinc 5 1, 3) := by decide +kernel
theorem dX6_sources_91 : decode cX6_sources 91 = .ok (.goto (-78), 3) := by decide +kernel
theorem dX6_sources_94 : decode cX6_sources 94 = .ok (.iload_n 3, 1) := by decide +kernel
theorem dX6_sources_95 : decode cX6_sources 95 = .ok (.ireturn, 1) := by decide +kernel
theorem dX6_letters_0 : decode cX6_letters 0 = .ok (.aload_n 0, 1) := by decide +kernel
theorem dX6_letters_1 : decode cX6_letters 1 = .ok (.iconst 0, 1) := by decide +kernel
theorem dX6_letters_2 : decode cX6_letters 2 = .ok (.putfield 75, 3) := by decide +kernel
theorem dX6_letters_5 : decode cX6_letters 5 = .ok (.aload_n 0, 1) := by decide +kernel
theorem dX6_letters_6 : decode cX6_letters 6 = .ok (.getfield 82, 3) := by decide +kernel
theorem dX6_letters_9 : decode cX6_letters 9 = .ok (.ireturn, 1) := by decide +kernel
set_option maxRecDepth 20000 in
theorem ggX6_hasLetter_X6_isHouse : GoodIn wsX6_hasLetter wsX6_isHouse := goodIn_r _ [5, 6, 7, 4, 8] (by decide +kernel) (by decide +kernel)
set_option maxRecDepth 20000 in
theorem gX6_hasLetter_X6_isHouse : GoodIn wsX6_hasLetter (va_wsS RX6 105 yX6_isHouse wsX6_isHouse) := goodIn_app (goodIn_of _ (by decide +kernel)) ggX6_hasLetter_X6_isHouse
set_option maxRecDepth 20000 in
theorem ggX6_hasLetter_X6_isLetter : GoodIn wsX6_hasLetter wsX6_isLetter := goodIn_r _ [12, 13, 6, 7, 4, 8, 19, 20, 21, 22, 23, 24, 25, 26, 27, 28, 29, 30, 31, 32, 33, 34, 35, 36, 37, 38, 39, 40, 41, 42, 43, 44] (by decide +kernel) (by decide +kernel)
set_option maxRecDepth 20000 in
theorem gX6_hasLetter_X6_isLetter : GoodIn wsX6_hasLetter (wsV RX6 145 RX6 yX6_isLetter wsX6_isLetter) := goodIn_app (goodIn_of _ (by decide +kernel)) ggX6_hasLetter_X6_isLetter
set_option maxRecDepth 20000 in
theorem ggX6_hasLetter_X6_goes : GoodIn wsX6_hasLetter wsX6_goes := goodIn_r _ [17, 18, 19, 20, 21, 22, 23, 24, 25, 26, 27, 28, 29, 30, 31, 32, 33, 34, 35, 36, 37, 38, 39, 40, 41, 42, 43, 44] (by decide +kernel) (by decide +kernel)
set_option maxRecDepth 20000 in
theorem gX6_hasLetter_X6_goes : GoodIn wsX6_hasLetter (wsV RX6 95 RX6 yX6_goes wsX6_goes) := goodIn_app (goodIn_of _ (by decide +kernel)) ggX6_hasLetter_X6_goes
theorem dX6_hasLetter_0 : decode cX6_hasLetter 0 = .ok (.aload_n 0, 1) := by decide +kernel
theorem dX6_hasLetter_1 : decode cX6_hasLetter 1 = .ok (.iload_n 1, 1) := by decide +kernel
theorem dX6_hasLetter_2 : decode cX6_hasLetter 2 = .ok (.invokestatic 105, 3) := by decide +kernel
theorem dX6_hasLetter_5 : decode cX6_hasLetter 5 = .ok (.ifCond .eq 15, 3) := by decide +kernel
theorem dX6_hasLetter_8 : decode cX6_hasLetter 8 = .ok (.aload_n 0, 1) := by decide +kernel
theorem dX6_hasLetter_9 : decode cX6_hasLetter 9 = .ok (.iload_n 2, 1) := by decide +kernel
theorem dX6_hasLetter_10 : decode cX6_hasLetter 10 = .ok (.invokevirtual 145, 3) := by decide +kernel
theorem dX6_hasLetter_13 : decode cX6_hasLetter 13 = .ok (.ifCond .eq 7, 3) := by decide +kernel
theorem dX6_hasLetter_16 : decode cX6_hasLetter 16 = .ok (.iconst 1, 1) := by decide +kernel
theorem dX6_hasLetter_17 : decode cX6_hasLetter 17 = .ok (.goto 4, 3) := by decide +kernel
theorem dX6_hasLetter_20 : decode cX6_hasLetter 20 = .ok (.iconst 0, 1) := by decide +kernel
theorem dX6_hasLetter_21 : decode cX6_hasLetter 21 = .ok (.iconst 1, 1) := by decide +kernel
theorem dX6_hasLetter_22 : decode cX6_hasLetter 22 = .ok (.iconst 1, 1) := by decide +kernel
theorem dX6_hasLetter_23 : decode cX6_hasLetter 23 = .ok (.invokevirtual 95, 3) := by decide +kernel
theorem dX6_hasLetter_26 : decode cX6_hasLetter 26 = .ok (.ifCond .eq 21, 3) := by decide +kernel
theorem dX6_hasLetter_29 : decode cX6_hasLetter 29 = .ok (.aload_n 0, 1) := by decide +kernel
theorem dX6_hasLetter_30 : decode cX6_hasLetter 30 = .ok (.getfield 45, 3) := by decide +kernel
theorem dX6_hasLetter_33 : decode cX6_hasLetter 33 = .ok (.bipush 60, 2) := by decide +kernel
theorem dX6_hasLetter_35 : decode cX6_hasLetter 35 = .ok (.iload_n 1, 1) := by decide +kernel
theorem dX6_hasLetter_36 : decode cX6_hasLetter 36 = .ok (.imul, 1) := by decide +kernel
theorem dX6_hasLetter_37 : decode cX6_hasLetter 37 = .ok (.iload_n 2, 1) := by decide +kernel
theorem dX6_hasLetter_38 : decode cX6_hasLetter 38 = .ok (.iadd, 1) := by decide +kernel
theorem dX6_hasLetter_39 : decode cX6_hasLetter 39 = .ok (.baload, 1) := by decide +kernel
theorem dX6_hasLetter_40 : decode cX6_hasLetter 40 = .ok (.ifCond .eq 7, 3) := by decide +kernel
theorem dX6_hasLetter_43 : decode cX6_hasLetter 43 = .ok (.iconst 1, 1) := by decide +kernel
theorem dX6_hasLetter_44 : decode cX6_hasLetter 44 = .ok (.goto 4, 3) := by decide +kernel
theorem dX6_hasLetter_47 : decode cX6_hasLetter 47 = .ok (.iconst 0, 1) := by decide +kernel
theorem dX6_hasLetter_48 : decode cX6_hasLetter 48 = .ok (.ireturn, 1) := by decide +kernel
set_option maxRecDepth 20000 in
theorem ggX6_letter_X6_isLetter : GoodIn wsX6_letter wsX6_isLetter := goodIn_r _ [8, 9, 10, 11, 7, 12, 18, 19, 20, 21, 22, 23, 24, 25, 26, 27, 28, 29, 30, 31, 32, 33, 34, 35, 36, 37, 38, 39, 40, 41, 42, 43] (by decide +kernel) (by decide +kernel)
set_option maxRecDepth 20000 in
theorem gX6_letter_X6_isLetter : GoodIn wsX6_letter (wsV RX6 145 RX6 yX6_isLetter wsX6_isLetter) := goodIn_app (goodIn_of _ (by decide +kernel)) ggX6_letter_X6_isLetter
set_option maxRecDepth 20000 in
theorem ggX6_letter_X6_goes : GoodIn wsX6_letter wsX6_goes := goodIn_r _ [16, 17, 18, 19, 20, 21, 22, 23, 24, 25, 26, 27, 28, 29, 30, 31, 32, 33, 34, 35, 36, 37, 38, 39, 40, 41, 42, 43] (by decide +kernel) (by decide +kernel)
set_option maxRecDepth 20000 in
theorem gX6_letter_X6_goes : GoodIn wsX6_letter (wsV RX6 95 RX6 yX6_goes wsX6_goes) := goodIn_app (goodIn_of _ (by decide +kernel)) ggX6_letter_X6_goes
theorem dX6_letter_0 : decode cX6_letter 0 = .ok (.aload_n 0, 1) := by decide +kernel
theorem dX6_letter_1 : decode cX6_letter 1 = .ok (.aload_n 0, 1) := by decide +kernel
theorem dX6_letter_2 : decode cX6_letter 2 = .ok (.iload_n 1, 1) := by decide +kernel
theorem dX6_letter_3 : decode cX6_letter 3 = .ok (.invokevirtual 145, 3) := by decide +kernel
theorem dX6_letter_6 : decode cX6_letter 6 = .ok (.iconst 1, 1) := by decide +kernel
theorem dX6_letter_7 : decode cX6_letter 7 = .ok (.iconst 1, 1) := by decide +kernel
theorem dX6_letter_8 : decode cX6_letter 8 = .ok (.invokevirtual 95, 3) := by decide +kernel
theorem dX6_letter_11 : decode cX6_letter 11 = .ok (.ifCond .eq 32, 3) := by decide +kernel
theorem dX6_letter_14 : decode cX6_letter 14 = .ok (.bipush 100, 2) := by decide +kernel
theorem dX6_letter_16 : decode cX6_letter 16 = .ok (.aload_n 0, 1) := by decide +kernel
theorem dX6_letter_17 : decode cX6_letter 17 = .ok (.getfield 36, 3) := by decide +kernel
theorem dX6_letter_20 : decode cX6_letter 20 = .ok (.iload_n 1, 1) := by decide +kernel
theorem dX6_letter_21 : decode cX6_letter 21 = .ok (.iaload, 1) := by decide +kernel
theorem dX6_letter_22 : decode cX6_letter 22 = .ok (.imul, 1) := by decide +kernel
theorem dX6_letter_23 : decode cX6_letter 23 = .ok (.bipush 10, 2) := by decide +kernel
theorem dX6_letter_25 : decode cX6_letter 25 = .ok (.aload_n 0, 1) := by decide +kernel
theorem dX6_letter_26 : decode cX6_letter 26 = .ok (.getfield 39, 3) := by decide +kernel
theorem dX6_letter_29 : decode cX6_letter 29 = .ok (.iload_n 1, 1) := by decide +kernel
theorem dX6_letter_30 : decode cX6_letter 30 = .ok (.iaload, 1) := by decide +kernel
theorem dX6_letter_31 : decode cX6_letter 31 = .ok (.imul, 1) := by decide +kernel
theorem dX6_letter_32 : decode cX6_letter 32 = .ok (.iadd, 1) := by decide +kernel
theorem dX6_letter_33 : decode cX6_letter 33 = .ok (.aload_n 0, 1) := by decide +kernel
theorem dX6_letter_34 : decode cX6_letter 34 = .ok (.getfield 42, 3) := by decide +kernel
theorem dX6_letter_37 : decode cX6_letter 37 = .ok (.iload_n 1, 1) := by decide +kernel
theorem dX6_letter_38 : decode cX6_letter 38 = .ok (.iaload, 1) := by decide +kernel
theorem dX6_letter_39 : decode cX6_letter 39 = .ok (.iadd, 1) := by decide +kernel
theorem dX6_letter_40 : decode cX6_letter 40 = .ok (.goto 4, 3) := by decide +kernel
theorem dX6_letter_43 : decode cX6_letter 43 = .ok (.iconst 0, 1) := by decide +kernel
theorem dX6_letter_44 : decode cX6_letter 44 = .ok (.ireturn, 1) := by decide +kernel
theorem dX6_loans_0 : decode cX6_loans 0 = .ok (.aload_n 0, 1) := by decide +kernel
theorem dX6_loans_1 : decode cX6_loans 1 = .ok (.iconst 0, 1) := by decide +kernel
theorem dX6_loans_2 : decode cX6_loans 2 = .ok (.putfield 75, 3) := by decide +kernel
theorem dX6_loans_5 : decode cX6_loans 5 = .ok (.aload_n 0, 1) := by decide +kernel
theorem dX6_loans_6 : decode cX6_loans 6 = .ok (.getfield 85, 3) := by decide +kernel
theorem dX6_loans_9 : decode cX6_loans 9 = .ok (.ireturn, 1) := by decide +kernel
set_option maxRecDepth 20000 in
theorem ggX6_isBack_X6_isLoan : GoodIn wsX6_isBack wsX6_isLoan := goodIn_r _ [6, 7, 8, 9, 5, 10, 16, 17, 18, 19, 20, 21, 22, 23, 24, 25, 26, 27, 28, 29, 30, 31, 32, 33, 34, 35, 36, 37, 38, 39, 40, 41] (by decide +kernel) (by decide +kernel)
set_option maxRecDepth 20000 in
theorem gX6_isBack_X6_isLoan : GoodIn wsX6_isBack (wsV RX6 118 RX6 yX6_isLoan wsX6_isLoan) := goodIn_app (goodIn_of _ (by decide +kernel)) ggX6_isBack_X6_isLoan
set_option maxRecDepth 20000 in
theorem ggX6_isBack_X6_goes : GoodIn wsX6_isBack wsX6_goes := goodIn_r _ [14, 15, 16, 17, 18, 19, 20, 21, 22, 23, 24, 25, 26, 27, 28, 29, 30, 31, 32, 33, 34, 35, 36, 37, 38, 39, 40, 41] (by decide +kernel) (by decide +kernel)
set_option maxRecDepth 20000 in
theorem gX6_isBack_X6_goes : GoodIn wsX6_isBack (wsV RX6 95 RX6 yX6_goes wsX6_goes) := goodIn_app (goodIn_of _ (by decide +kernel)) ggX6_isBack_X6_goes
theorem dX6_isBack_0 : decode cX6_isBack 0 = .ok (.aload_n 0, 1) := by decide +kernel
theorem dX6_isBack_1 : decode cX6_isBack 1 = .ok (.aload_n 0, 1) := by decide +kernel
theorem dX6_isBack_2 : decode cX6_isBack 2 = .ok (.iload_n 1, 1) := by decide +kernel
theorem dX6_isBack_3 : decode cX6_isBack 3 = .ok (.invokevirtual 118, 3) := by decide +kernel
theorem dX6_isBack_6 : decode cX6_isBack 6 = .ok (.iconst 1, 1) := by decide +kernel
theorem dX6_isBack_7 : decode cX6_isBack 7 = .ok (.iconst 1, 1) := by decide +kernel
theorem dX6_isBack_8 : decode cX6_isBack 8 = .ok (.invokevirtual 95, 3) := by decide +kernel
theorem dX6_isBack_11 : decode cX6_isBack 11 = .ok (.ifCond .eq 16, 3) := by decide +kernel
theorem dX6_isBack_14 : decode cX6_isBack 14 = .ok (.aload_n 0, 1) := by decide +kernel
theorem dX6_isBack_15 : decode cX6_isBack 15 = .ok (.getfield 63, 3) := by decide +kernel
theorem dX6_isBack_18 : decode cX6_isBack 18 = .ok (.iload_n 1, 1) := by decide +kernel
theorem dX6_isBack_19 : decode cX6_isBack 19 = .ok (.baload, 1) := by decide +kernel
theorem dX6_isBack_20 : decode cX6_isBack 20 = .ok (.ifCond .eq 7, 3) := by decide +kernel
theorem dX6_isBack_23 : decode cX6_isBack 23 = .ok (.iconst 1, 1) := by decide +kernel
theorem dX6_isBack_24 : decode cX6_isBack 24 = .ok (.goto 4, 3) := by decide +kernel
theorem dX6_isBack_27 : decode cX6_isBack 27 = .ok (.iconst 0, 1) := by decide +kernel
theorem dX6_isBack_28 : decode cX6_isBack 28 = .ok (.ireturn, 1) := by decide +kernel
set_option maxRecDepth 20000 in
theorem ggX6_late_X6_isLoan : GoodIn wsX6_late wsX6_isLoan := goodIn_r _ [7, 8, 9, 10, 6, 11, 23, 24, 25, 26, 27, 28, 29, 30, 31, 32, 33, 34, 35, 36, 37, 38, 39, 40, 41, 42, 43, 44, 45, 46, 47, 48] (by decide +kernel) (by decide +kernel)
set_option maxRecDepth 20000 in
theorem gX6_late_X6_isLoan : GoodIn wsX6_late (wsV RX6 118 RX6 yX6_isLoan wsX6_isLoan) := goodIn_app (goodIn_of _ (by decide +kernel)) ggX6_late_X6_isLoan
set_option maxRecDepth 20000 in
theorem ggX6_late_X6_goes : GoodIn wsX6_late wsX6_goes := goodIn_r _ [15, 16, 23, 24, 25, 26, 27, 28, 29, 30, 31, 32, 33, 34, 35, 36, 37, 38, 39, 40, 41, 42, 43, 44, 45, 46, 47, 48] (by decide +kernel) (by decide +kernel)
set_option maxRecDepth 20000 in
theorem gX6_late_X6_goes : GoodIn wsX6_late (wsV RX6 95 RX6 yX6_goes wsX6_goes) := goodIn_app (goodIn_of _ (by decide +kernel)) ggX6_late_X6_goes
set_option maxRecDepth 20000 in
theorem ggX6_late_X6_lateNow : GoodIn wsX6_late wsX6_lateNow := goodIn_r _ [20, 21, 22, 23, 24, 25, 26, 27, 28, 29, 30, 31, 32, 33, 34, 35, 36, 37, 38, 39, 40, 41, 42, 43, 44, 45, 46, 47, 48] (by decide +kernel) (by decide +kernel)
set_option maxRecDepth 20000 in
theorem gX6_late_X6_lateNow : GoodIn wsX6_late (wsV RX6 121 RX6 yX6_lateNow wsX6_lateNow) := goodIn_app (goodIn_of _ (by decide +kernel)) ggX6_late_X6_lateNow
theorem dX6_late_0 : decode cX6_late 0 = .ok (.aload_n 0, 1) := by decide +kernel
theorem dX6_late_1 : decode cX6_late 1 = .ok (.aload_n 0, 1) := by decide +kernel
theorem dX6_late_2 : decode cX6_late 2 = .ok (.iload_n 1, 1) := by decide +kernel
theorem dX6_late_3 : decode cX6_late 3 = .ok (.invokevirtual 118, 3) := by decide +kernel
theorem dX6_late_6 : decode cX6_late 6 = .ok (.iconst 1, 1) := by decide +kernel
theorem dX6_late_7 : decode cX6_late 7 = .ok (.iconst 1, 1) := by decide +kernel
theorem dX6_late_8 : decode cX6_late 8 = .ok (.invokevirtual 95, 3) := by decide +kernel
theorem dX6_late_11 : decode cX6_late 11 = .ok (.ifCond .eq 29, 3) := by decide +kernel
theorem dX6_late_14 : decode cX6_late 14 = .ok (.aload_n 0, 1) := by decide +kernel
theorem dX6_late_15 : decode cX6_late 15 = .ok (.getfield 63, 3) := by decide +kernel
theorem dX6_late_18 : decode cX6_late 18 = .ok (.iload_n 1, 1) := by decide +kernel
theorem dX6_late_19 : decode cX6_late 19 = .ok (.baload, 1) := by decide +kernel
theorem dX6_late_20 : decode cX6_late 20 = .ok (.ifCond .eq 12, 3) := by decide +kernel
theorem dX6_late_23 : decode cX6_late 23 = .ok (.aload_n 0, 1) := by decide +kernel
theorem dX6_late_24 : decode cX6_late 24 = .ok (.getfield 60, 3) := by decide +kernel
theorem dX6_late_27 : decode cX6_late 27 = .ok (.iload_n 1, 1) := by decide +kernel
theorem dX6_late_28 : decode cX6_late 28 = .ok (.iaload, 1) := by decide +kernel
theorem dX6_late_29 : decode cX6_late 29 = .ok (.goto 12, 3) := by decide +kernel
theorem dX6_late_32 : decode cX6_late 32 = .ok (.aload_n 0, 1) := by decide +kernel
theorem dX6_late_33 : decode cX6_late 33 = .ok (.iload_n 1, 1) := by decide +kernel
theorem dX6_late_34 : decode cX6_late 34 = .ok (.invokevirtual 121, 3) := by decide +kernel
theorem dX6_late_37 : decode cX6_late 37 = .ok (.goto 4, 3) := by decide +kernel
theorem dX6_late_40 : decode cX6_late 40 = .ok (.iconst 0, 1) := by decide +kernel
theorem dX6_late_41 : decode cX6_late 41 = .ok (.ireturn, 1) := by decide +kernel
set_option maxRecDepth 20000 in
theorem ggX6_coins_X6_isHouse : GoodIn wsX6_coins wsX6_isHouse := goodIn_r _ [5, 6, 7, 4, 8] (by decide +kernel) (by decide +kernel)
set_option maxRecDepth 20000 in
theorem gX6_coins_X6_isHouse : GoodIn wsX6_coins (va_wsS RX6 105 yX6_isHouse wsX6_isHouse) := goodIn_app (goodIn_of _ (by decide +kernel)) ggX6_coins_X6_isHouse
set_option maxRecDepth 20000 in
theorem ggX6_coins_X6_goes : GoodIn wsX6_coins wsX6_goes := goodIn_r _ [12, 13, 14, 15, 16, 17, 18, 19, 20, 21, 22, 23, 24, 25, 26, 27, 28, 29, 30, 31, 32, 33, 34, 35, 36, 37, 38, 39] (by decide +kernel) (by decide +kernel)
set_option maxRecDepth 20000 in
theorem gX6_coins_X6_goes : GoodIn wsX6_coins (wsV RX6 95 RX6 yX6_goes wsX6_goes) := goodIn_app (goodIn_of _ (by decide +kernel)) ggX6_coins_X6_goes
theorem dX6_coins_0 : decode cX6_coins 0 = .ok (.aload_n 0, 1) := by decide +kernel
theorem dX6_coins_1 : decode cX6_coins 1 = .ok (.iload_n 1, 1) := by decide +kernel
theorem dX6_coins_2 : decode cX6_coins 2 = .ok (.invokestatic 105, 3) := by decide +kernel
theorem dX6_coins_5 : decode cX6_coins 5 = .ok (.iconst 1, 1) := by decide +kernel
theorem dX6_coins_6 : decode cX6_coins 6 = .ok (.iconst 1, 1) := by decide +kernel
theorem dX6_coins_7 : decode cX6_coins 7 = .ok (.invokevirtual 95, 3) := by decide +kernel
theorem dX6_coins_10 : decode cX6_coins 10 = .ok (.ifCond .eq 12, 3) := by decide +kernel
theorem dX6_coins_13 : decode cX6_coins 13 = .ok (.aload_n 0, 1) := by decide +kernel
theorem dX6_coins_14 : decode cX6_coins 14 = .ok (.getfield 66, 3) := by decide +kernel
theorem dX6_coins_17 : decode cX6_coins 17 = .ok (.iload_n 1, 1) := by decide +kernel
theorem dX6_coins_18 : decode cX6_coins 18 = .ok (.iaload, 1) := by decide +kernel
theorem dX6_coins_19 : decode cX6_coins 19 = .ok (.goto 4, 3) := by decide +kernel
theorem dX6_coins_22 : decode cX6_coins 22 = .ok (.iconst 0, 1) := by decide +kernel
theorem dX6_coins_23 : decode cX6_coins 23 = .ok (.ireturn, 1) := by decide +kernel
set_option maxRecDepth 20000 in
theorem ggX6_laidDown_X6_isHouse : GoodIn wsX6_laidDown wsX6_isHouse := goodIn_r _ [5, 6, 7, 4, 8] (by decide +kernel) (by decide +kernel)
set_option maxRecDepth 20000 in
theorem gX6_laidDown_X6_isHouse : GoodIn wsX6_laidDown (va_wsS RX6 105 yX6_isHouse wsX6_isHouse) := goodIn_app (goodIn_of _ (by decide +kernel)) ggX6_laidDown_X6_isHouse
set_option maxRecDepth 20000 in
theorem ggX6_laidDown_X6_goes : GoodIn wsX6_laidDown wsX6_goes := goodIn_r _ [12, 13, 14, 15, 16, 17, 18, 19, 20, 21, 22, 23, 24, 25, 26, 27, 28, 29, 30, 31, 32, 33, 34, 35, 36, 37, 38, 39] (by decide +kernel) (by decide +kernel)
set_option maxRecDepth 20000 in
theorem gX6_laidDown_X6_goes : GoodIn wsX6_laidDown (wsV RX6 95 RX6 yX6_goes wsX6_goes) := goodIn_app (goodIn_of _ (by decide +kernel)) ggX6_laidDown_X6_goes
theorem dX6_laidDown_0 : decode cX6_laidDown 0 = .ok (.aload_n 0, 1) := by decide +kernel
theorem dX6_laidDown_1 : decode cX6_laidDown 1 = .ok (.iload_n 1, 1) := by decide +kernel
theorem dX6_laidDown_2 : decode cX6_laidDown 2 = .ok (.invokestatic 105, 3) := by decide +kernel
theorem dX6_laidDown_5 : decode cX6_laidDown 5 = .ok (.iconst 1, 1) := by decide +kernel
theorem dX6_laidDown_6 : decode cX6_laidDown 6 = .ok (.iconst 1, 1) := by decide +kernel
theorem dX6_laidDown_7 : decode cX6_laidDown 7 = .ok (.invokevirtual 95, 3) := by decide +kernel
theorem dX6_laidDown_10 : decode cX6_laidDown 10 = .ok (.ifCond .eq 12, 3) := by decide +kernel
theorem dX6_laidDown_13 : decode cX6_laidDown 13 = .ok (.aload_n 0, 1) := by decide +kernel
theorem dX6_laidDown_14 : decode cX6_laidDown 14 = .ok (.getfield 69, 3) := by decide +kernel
theorem dX6_laidDown_17 : decode cX6_laidDown 17 = .ok (.iload_n 1, 1) := by decide +kernel
theorem dX6_laidDown_18 : decode cX6_laidDown 18 = .ok (.iaload, 1) := by decide +kernel
theorem dX6_laidDown_19 : decode cX6_laidDown 19 = .ok (.goto 4, 3) := by decide +kernel
theorem dX6_laidDown_22 : decode cX6_laidDown 22 = .ok (.iconst 0, 1) := by decide +kernel
theorem dX6_laidDown_23 : decode cX6_laidDown 23 = .ok (.ireturn, 1) := by decide +kernel
theorem dJ13_bitCount_95d88_0 : decode cJ13_bitCount_95d88 0 = .ok (.lload_n 0, 1) := by decide +kernel
theorem dJ13_bitCount_95d88_1 : decode cJ13_bitCount_95d88 1 = .ok (.lload_n 0, 1) := by decide +kernel
theorem dJ13_bitCount_95d88_2 : decode cJ13_bitCount_95d88 2 = .ok (.iconst 1, 1) := by decide +kernel
theorem dJ13_bitCount_95d88_3 : decode cJ13_bitCount_95d88 3 = .ok (.lushr, 1) := by decide +kernel
theorem dJ13_bitCount_95d88_4 : decode cJ13_bitCount_95d88 4 = .ok (.ldc2_w 314, 3) := by decide +kernel
theorem dJ13_bitCount_95d88_7 : decode cJ13_bitCount_95d88 7 = .ok (.land, 1) := by decide +kernel
theorem dJ13_bitCount_95d88_8 : decode cJ13_bitCount_95d88 8 = .ok (.lsub, 1) := by decide +kernel
theorem dJ13_bitCount_95d88_9 : decode cJ13_bitCount_95d88 9 = .ok (.lstore_n 0, 1) := by decide +kernel
theorem dJ13_bitCount_95d88_10 : decode cJ13_bitCount_95d88 10 = .ok (.lload_n 0, 1) := by decide +kernel
theorem dJ13_bitCount_95d88_11 : decode cJ13_bitCount_95d88 11 = .ok (.ldc2_w 316, 3) := by decide +kernel
theorem dJ13_bitCount_95d88_14 : decode cJ13_bitCount_95d88 14 = .ok (.land, 1) := by decide +kernel
theorem dJ13_bitCount_95d88_15 : decode cJ13_bitCount_95d88 15 = .ok (.lload_n 0, 1) := by decide +kernel
theorem dJ13_bitCount_95d88_16 : decode cJ13_bitCount_95d88 16 = .ok (.iconst 2, 1) := by decide +kernel
theorem dJ13_bitCount_95d88_17 : decode cJ13_bitCount_95d88 17 = .ok (.lushr, 1) := by decide +kernel
theorem dJ13_bitCount_95d88_18 : decode cJ13_bitCount_95d88 18 = .ok (.ldc2_w 316, 3) := by decide +kernel
theorem dJ13_bitCount_95d88_21 : decode cJ13_bitCount_95d88 21 = .ok (.land, 1) := by decide +kernel
theorem dJ13_bitCount_95d88_22 : decode cJ13_bitCount_95d88 22 = .ok (.ladd, 1) := by decide +kernel
theorem dJ13_bitCount_95d88_23 : decode cJ13_bitCount_95d88 23 = .ok (.lstore_n 0, 1) := by decide +kernel
theorem dJ13_bitCount_95d88_24 : decode cJ13_bitCount_95d88 24 = .ok (.lload_n 0, 1) := by decide +kernel
theorem dJ13_bitCount_95d88_25 : decode cJ13_bitCount_95d88 25 = .ok (.lload_n 0, 1) := by decide +kernel
theorem dJ13_bitCount_95d88_26 : decode cJ13_bitCount_95d88 26 = .ok (.iconst 4, 1) := by decide +kernel
theorem dJ13_bitCount_95d88_27 : decode cJ13_bitCount_95d88 27 = .ok (.lushr, 1) := by decide +kernel
theorem dJ13_bitCount_95d88_28 : decode cJ13_bitCount_95d88 28 = .ok (.ladd, 1) := by decide +kernel
theorem dJ13_bitCount_95d88_29 : decode cJ13_bitCount_95d88 29 = .ok (.ldc2_w 318, 3) := by decide +kernel
theorem dJ13_bitCount_95d88_32 : decode cJ13_bitCount_95d88 32 = .ok (.land, 1) := by decide +kernel
theorem dJ13_bitCount_95d88_33 : decode cJ13_bitCount_95d88 33 = .ok (.lstore_n 0, 1) := by decide +kernel
theorem dJ13_bitCount_95d88_34 : decode cJ13_bitCount_95d88 34 = .ok (.lload_n 0, 1) := by decide +kernel
theorem dJ13_bitCount_95d88_35 : decode cJ13_bitCount_95d88 35 = .ok (.lload_n 0, 1) := by decide +kernel
theorem dJ13_bitCount_95d88_36 : decode cJ13_bitCount_95d88 36 = .ok (.bipush 8, 2) := by decide +kernel
theorem dJ13_bitCount_95d88_38 : decode cJ13_bitCount_95d88 38 = .ok (.lushr, 1) := by decide +kernel
theorem dJ13_bitCount_95d88_39 : decode cJ13_bitCount_95d88 39 = .ok (.ladd, 1) := by decide +kernel
theorem dJ13_bitCount_95d88_40 : decode cJ13_bitCount_95d88 40 = .ok (.lstore_n 0, 1) := by decide +kernel
theorem dJ13_bitCount_95d88_41 : decode cJ13_bitCount_95d88 41 = .ok (.lload_n 0, 1) := by decide +kernel
theorem dJ13_bitCount_95d88_42 : decode cJ13_bitCount_95d88 42 = .ok (.lload_n 0, 1) := by decide +kernel
theorem dJ13_bitCount_95d88_43 : decode cJ13_bitCount_95d88 43 = .ok (.bipush 16, 2) := by decide +kernel
theorem dJ13_bitCount_95d88_45 : decode cJ13_bitCount_95d88 45 = .ok (.lushr, 1) := by decide +kernel
theorem dJ13_bitCount_95d88_46 : decode cJ13_bitCount_95d88 46 = .ok (.ladd, 1) := by decide +kernel
theorem dJ13_bitCount_95d88_47 : decode cJ13_bitCount_95d88 47 = .ok (.lstore_n 0, 1) := by decide +kernel
theorem dJ13_bitCount_95d88_48 : decode cJ13_bitCount_95d88 48 = .ok (.lload_n 0, 1) := by decide +kernel
theorem dJ13_bitCount_95d88_49 : decode cJ13_bitCount_95d88 49 = .ok (.lload_n 0, 1) := by decide +kernel
theorem dJ13_bitCount_95d88_50 : decode cJ13_bitCount_95d88 50 = .ok (.bipush 32, 2) := by decide +kernel
theorem dJ13_bitCount_95d88_52 : decode cJ13_bitCount_95d88 52 = .ok (.lushr, 1) := by decide +kernel
theorem dJ13_bitCount_95d88_53 : decode cJ13_bitCount_95d88 53 = .ok (.ladd, 1) := by decide +kernel
theorem dJ13_bitCount_95d88_54 : decode cJ13_bitCount_95d88 54 = .ok (.lstore_n 0, 1) := by decide +kernel
theorem dJ13_bitCount_95d88_55 : decode cJ13_bitCount_95d88 55 = .ok (.lload_n 0, 1) := by decide +kernel
theorem dJ13_bitCount_95d88_56 : decode cJ13_bitCount_95d88 56 = .ok (.l2i, 1) := by decide +kernel
theorem dJ13_bitCount_95d88_57 : decode cJ13_bitCount_95d88 57 = .ok (.bipush 127, 2) := by decide +kernel
theorem dJ13_bitCount_95d88_59 : decode cJ13_bitCount_95d88 59 = .ok (.iand, 1) := by decide +kernel
theorem dJ13_bitCount_95d88_60 : decode cJ13_bitCount_95d88 60 = .ok (.ireturn, 1) := by decide +kernel
theorem dJ9_max_7cf53_0 : decode cJ9_max_7cf53 0 = .ok (.iload_n 0, 1) := by decide +kernel
theorem dJ9_max_7cf53_1 : decode cJ9_max_7cf53 1 = .ok (.iload_n 1, 1) := by decide +kernel
theorem dJ9_max_7cf53_2 : decode cJ9_max_7cf53 2 = .ok (.if_icmp .lt 7, 3) := by decide +kernel
theorem dJ9_max_7cf53_5 : decode cJ9_max_7cf53 5 = .ok (.iload_n 0, 1) := by decide +kernel
theorem dJ9_max_7cf53_6 : decode cJ9_max_7cf53 6 = .ok (.goto 4, 3) := by decide +kernel
theorem dJ9_max_7cf53_9 : decode cJ9_max_7cf53 9 = .ok (.iload_n 1, 1) := by decide +kernel
theorem dJ9_max_7cf53_10 : decode cJ9_max_7cf53 10 = .ok (.ireturn, 1) := by decide +kernel
theorem dJ9_min_7cf53_0 : decode cJ9_min_7cf53 0 = .ok (.iload_n 0, 1) := by decide +kernel
theorem dJ9_min_7cf53_1 : decode cJ9_min_7cf53 1 = .ok (.iload_n 1, 1) := by decide +kernel
theorem dJ9_min_7cf53_2 : decode cJ9_min_7cf53 2 = .ok (.if_icmp .gt 7, 3) := by decide +kernel
theorem dJ9_min_7cf53_5 : decode cJ9_min_7cf53 5 = .ok (.iload_n 0, 1) := by decide +kernel
theorem dJ9_min_7cf53_6 : decode cJ9_min_7cf53 6 = .ok (.goto 4, 3) := by decide +kernel
theorem dJ9_min_7cf53_9 : decode cJ9_min_7cf53 9 = .ok (.iload_n 1, 1) := by decide +kernel
theorem dJ9_min_7cf53_10 : decode cJ9_min_7cf53 10 = .ok (.ireturn, 1) := by decide +kernel
theorem dJxa1e45_init_da8c8_0 : decode cJxa1e45_init_da8c8 0 = .ok (.aload_n 0, 1) := by decide +kernel
theorem dJxa1e45_init_da8c8_1 : decode cJxa1e45_init_da8c8 1 = .ok (.invokespecial 1, 3) := by decide +kernel
theorem dJxa1e45_init_da8c8_4 : decode cJxa1e45_init_da8c8 4 = .ok (.return_, 1) := by decide +kernel
set_option maxRecDepth 20000 in
theorem ggJxc12de_init_da8c8_Jxa1e45_init_da8c8 : GoodIn wsJxc12de_init_da8c8 wsJxa1e45_init_da8c8 := goodIn_r _ [5, 6, 7, 8] (by decide +kernel) (by decide +kernel)
set_option maxRecDepth 20000 in
theorem gJxc12de_init_da8c8_Jxa1e45_init_da8c8 : GoodIn wsJxc12de_init_da8c8 (wsJxa1e45_init_da8c8) := ggJxc12de_init_da8c8_Jxa1e45_init_da8c8
theorem dJxc12de_init_da8c8_0 : decode cJxc12de_init_da8c8 0 = .ok (.aload_n 0, 1) := by decide +kernel
theorem dJxc12de_init_da8c8_1 : decode cJxc12de_init_da8c8 1 = .ok (.invokespecial 1, 3) := by decide +kernel
theorem dJxc12de_init_da8c8_4 : decode cJxc12de_init_da8c8 4 = .ok (.aload_n 0, 1) := by decide +kernel
theorem dJxc12de_init_da8c8_5 : decode cJxc12de_init_da8c8 5 = .ok (.iconst 0, 1) := by decide +kernel
theorem dJxc12de_init_da8c8_6 : decode cJxc12de_init_da8c8 6 = .ok (.putfield 7, 3) := by decide +kernel
theorem dJxc12de_init_da8c8_9 : decode cJxc12de_init_da8c8 9 = .ok (.return_, 1) := by decide +kernel
set_option maxRecDepth 20000 in
theorem ggJx4a65c_init_da8c8_Jxc12de_init_da8c8 : GoodIn wsJx4a65c_init_da8c8 wsJxc12de_init_da8c8 := goodIn_r _ [6, 7, 8, 9, 10, 11, 12, 13, 14, 15, 16, 17] (by decide +kernel) (by decide +kernel)
set_option maxRecDepth 20000 in
theorem gJx4a65c_init_da8c8_Jxc12de_init_da8c8 : GoodIn wsJx4a65c_init_da8c8 (wsJxc12de_init_da8c8) := ggJx4a65c_init_da8c8_Jxc12de_init_da8c8
theorem dJx4a65c_init_da8c8_0 : decode cJx4a65c_init_da8c8 0 = .ok (.aload_n 0, 1) := by decide +kernel
theorem dJx4a65c_init_da8c8_1 : decode cJx4a65c_init_da8c8 1 = .ok (.invokespecial 1, 3) := by decide +kernel
theorem dJx4a65c_init_da8c8_4 : decode cJx4a65c_init_da8c8 4 = .ok (.aload_n 0, 1) := by decide +kernel
theorem dJx4a65c_init_da8c8_5 : decode cJx4a65c_init_da8c8 5 = .ok (.getstatic 39, 3) := by decide +kernel
theorem dJx4a65c_init_da8c8_8 : decode cJx4a65c_init_da8c8 8 = .ok (.putfield 9, 3) := by decide +kernel
theorem dJx4a65c_init_da8c8_11 : decode cJx4a65c_init_da8c8 11 = .ok (.return_, 1) := by decide +kernel
set_option maxRecDepth 20000 in
theorem ggJx4a65c_grow_92f84_J8_newLength_cabcc : GoodIn wsJx4a65c_grow_92f84 wsJ8_newLength_cabcc := goodIn_r _ [11, 12, 4, 5, 6, 13, 14, 15, 10, 16] (by decide +kernel) (by decide +kernel)
set_option maxRecDepth 20000 in
theorem gJx4a65c_grow_92f84_J8_newLength_cabcc : GoodIn wsJx4a65c_grow_92f84 (va_wsS RJx4a65c 73 yJ8_newLength_cabcc wsJ8_newLength_cabcc) := goodIn_app (goodIn_of _ (by decide +kernel)) ggJx4a65c_grow_92f84_J8_newLength_cabcc
set_option maxRecDepth 20000 in
theorem ggJx4a65c_grow_92f84_J7_copyOf_1904c : GoodIn wsJx4a65c_grow_92f84 wsJ7_copyOf_1904c := goodIn_r _ [20, 21, 22, 23, 24, 25, 26, 19, 27, 28, 29, 30, 31, 5, 32, 33, 34, 35, 36] (by decide +kernel) (by decide +kernel)
set_option maxRecDepth 20000 in
theorem gJx4a65c_grow_92f84_J7_copyOf_1904c : GoodIn wsJx4a65c_grow_92f84 (va_wsS RJx4a65c 66 yJ7_copyOf_1904c wsJ7_copyOf_1904c) := goodIn_app (goodIn_of _ (by decide +kernel)) ggJx4a65c_grow_92f84_J7_copyOf_1904c
theorem dJx4a65c_grow_92f84_0 : decode cJx4a65c_grow_92f84 0 = .ok (.aload_n 0, 1) := by decide +kernel
theorem dJx4a65c_grow_92f84_1 : decode cJx4a65c_grow_92f84 1 = .ok (.getfield 9, 3) := by decide +kernel
theorem dJx4a65c_grow_92f84_4 : decode cJx4a65c_grow_92f84 4 = .ok (.arraylength, 1) := by decide +kernel
theorem dJx4a65c_grow_92f84_5 : decode cJx4a65c_grow_92f84 5 = .ok (.istore_n 2, 1) := by decide +kernel
theorem dJx4a65c_grow_92f84_6 : decode cJx4a65c_grow_92f84 6 = .ok (.iload_n 2, 1) := by decide +kernel
theorem dJx4a65c_grow_92f84_7 : decode cJx4a65c_grow_92f84 7 = .ok (.ifCond .gt 13, 3) := by decide +kernel
theorem dJx4a65c_grow_92f84_10 : decode cJx4a65c_grow_92f84 10 = .ok (.aload_n 0, 1) := by decide +kernel
theorem dJx4a65c_grow_92f84_11 : decode cJx4a65c_grow_92f84 11 = .ok (.getfield 9, 3) := by decide +kernel
theorem dJx4a65c_grow_92f84_14 : decode cJx4a65c_grow_92f84 14 = .ok (.getstatic 39, 3) := by decide +kernel
theorem dJx4a65c_grow_92f84_17 : decode cJx4a65c_grow_92f84 17 = .ok (.if_acmp .eq 28, 3) := by decide +kernel
theorem dJx4a65c_grow_92f84_20 : decode cJx4a65c_grow_92f84 20 = .ok (.iload_n 2, 1) := by decide +kernel
theorem dJx4a65c_grow_92f84_21 : decode cJx4a65c_grow_92f84 21 = .ok (.iload_n 1, 1) := by decide +kernel
theorem dJx4a65c_grow_92f84_22 : decode cJx4a65c_grow_92f84 22 = .ok (.iload_n 2, 1) := by decide +kernel
theorem dJx4a65c_grow_92f84_23 : decode cJx4a65c_grow_92f84 23 = .ok (.isub, 1) := by decide +kernel
theorem dJx4a65c_grow_92f84_24 : decode cJx4a65c_grow_92f84 24 = .ok (.iload_n 2, 1) := by decide +kernel
theorem dJx4a65c_grow_92f84_25 : decode cJx4a65c_grow_92f84 25 = .ok (.iconst 1, 1) := by decide +kernel
theorem dJx4a65c_grow_92f84_26 : decode cJx4a65c_grow_92f84 26 = .ok (.ishr, 1) := by decide +kernel
theorem dJx4a65c_grow_92f84_27 : decode cJx4a65c_grow_92f84 27 = .ok (.invokestatic 73, 3) := by decide +kernel
theorem dJx4a65c_grow_92f84_30 : decode cJx4a65c_grow_92f84 30 = .ok (.istore_n 3, 1) := by decide +kernel
theorem dJx4a65c_grow_92f84_31 : decode cJx4a65c_grow_92f84 31 = .ok (.aload_n 0, 1) := by decide +kernel
theorem dJx4a65c_grow_92f84_32 : decode cJx4a65c_grow_92f84 32 = .ok (.aload_n 0, 1) := by decide +kernel
theorem dJx4a65c_grow_92f84_33 : decode cJx4a65c_grow_92f84 33 = .ok (.getfield 9, 3) := by decide +kernel
theorem dJx4a65c_grow_92f84_36 : decode cJx4a65c_grow_92f84 36 = .ok (.iload_n 3, 1) := by decide +kernel
theorem dJx4a65c_grow_92f84_37 : decode cJx4a65c_grow_92f84 37 = .ok (.invokestatic 66, 3) := by decide +kernel
theorem dJx4a65c_grow_92f84_40 : decode cJx4a65c_grow_92f84 40 = .ok (.dup_x1, 1) := by decide +kernel
theorem dJx4a65c_grow_92f84_41 : decode cJx4a65c_grow_92f84 41 = .ok (.putfield 9, 3) := by decide +kernel
theorem dJx4a65c_grow_92f84_44 : decode cJx4a65c_grow_92f84 44 = .ok (.areturn, 1) := by decide +kernel
theorem dJx4a65c_grow_92f84_45 : decode cJx4a65c_grow_92f84 45 = .ok (.aload_n 0, 1) := by decide +kernel
theorem dJx4a65c_grow_92f84_46 : decode cJx4a65c_grow_92f84 46 = .ok (.bipush 10, 2) := by decide +kernel
theorem dJx4a65c_grow_92f84_48 : decode cJx4a65c_grow_92f84 48 = .ok (.iload_n 1, 1) := by decide +kernel
theorem dJx4a65c_grow_92f84_49 : decode cJx4a65c_grow_92f84 49 = .ok (.invokestatic 79, 3) := by decide +kernel
theorem dJx4a65c_grow_92f84_52 : decode cJx4a65c_grow_92f84 52 = .ok (.anewarray 7, 3) := by decide +kernel
theorem dJx4a65c_grow_92f84_55 : decode cJx4a65c_grow_92f84 55 = .ok (.dup_x1, 1) := by decide +kernel
theorem dJx4a65c_grow_92f84_56 : decode cJx4a65c_grow_92f84 56 = .ok (.putfield 9, 3) := by decide +kernel
theorem dJx4a65c_grow_92f84_59 : decode cJx4a65c_grow_92f84 59 = .ok (.areturn, 1) := by decide +kernel
set_option maxRecDepth 20000 in
theorem ggJx4a65c_grow_d5877_Jx4a65c_grow_92f84 : GoodIn wsJx4a65c_grow_d5877 wsJx4a65c_grow_92f84 := goodIn_r _ [6, 7, 8, 9, 10, 11, 12, 13, 14, 15, 16, 17, 18, 19, 20, 21, 22, 23, 24, 25, 26, 27, 28, 29, 30, 31, 32, 33, 34, 35, 36, 37, 38, 39, 40, 41, 42, 43, 44, 45] (by decide +kernel) (by decide +kernel)
set_option maxRecDepth 20000 in
theorem gJx4a65c_grow_d5877_Jx4a65c_grow_92f84 : GoodIn wsJx4a65c_grow_d5877 (wsV RJx4a65c 69 RJx4a65c yJx4a65c_grow_92f84 wsJx4a65c_grow_92f84) := goodIn_app (goodIn_of _ (by decide +kernel)) ggJx4a65c_grow_d5877_Jx4a65c_grow_92f84
theorem dJx4a65c_grow_d5877_0 : decode cJx4a65c_grow_d5877 0 = .ok (.aload_n 0, 1) := by decide +kernel
theorem dJx4a65c_grow_d5877_1 : decode cJx4a65c_grow_d5877 1 = .ok (.aload_n 0, 1) := by decide +kernel
theorem dJx4a65c_grow_d5877_2 : decode cJx4a65c_grow_d5877 2 = .ok (.getfield 48, 3) := by decide +kernel
theorem dJx4a65c_grow_d5877_5 : decode cJx4a65c_grow_d5877 5 = .ok (.iconst 1, 1) := by decide +kernel
theorem dJx4a65c_grow_d5877_6 : decode cJx4a65c_grow_d5877 6 = .ok (.iadd, 1) := by decide +kernel
theorem dJx4a65c_grow_d5877_7 : decode cJx4a65c_grow_d5877 7 = .ok (.invokevirtual 69, 3) := by decide +kernel
theorem dJx4a65c_grow_d5877_10 : decode cJx4a65c_grow_d5877 10 = .ok (.areturn, 1) := by decide +kernel
theorem dJx4a65c_size_8abf5_0 : decode cJx4a65c_size_8abf5 0 = .ok (.aload_n 0, 1) := by decide +kernel
theorem dJx4a65c_size_8abf5_1 : decode cJx4a65c_size_8abf5 1 = .ok (.getfield 48, 3) := by decide +kernel
theorem dJx4a65c_size_8abf5_4 : decode cJx4a65c_size_8abf5 4 = .ok (.ireturn, 1) := by decide +kernel
theorem dJx4a65c_elementData_915e3_0 : decode cJx4a65c_elementData_915e3 0 = .ok (.aload_n 0, 1) := by decide +kernel
theorem dJx4a65c_elementData_915e3_1 : decode cJx4a65c_elementData_915e3 1 = .ok (.getfield 9, 3) := by decide +kernel
theorem dJx4a65c_elementData_915e3_4 : decode cJx4a65c_elementData_915e3 4 = .ok (.iload_n 1, 1) := by decide +kernel
theorem dJx4a65c_elementData_915e3_5 : decode cJx4a65c_elementData_915e3 5 = .ok (.aaload, 1) := by decide +kernel
theorem dJx4a65c_elementData_915e3_6 : decode cJx4a65c_elementData_915e3 6 = .ok (.areturn, 1) := by decide +kernel
set_option maxRecDepth 20000 in
theorem ggJx4a65c_get_915e3_J15_checkIndex_7cf53 : GoodIn wsJx4a65c_get_915e3 wsJ15_checkIndex_7cf53 := goodIn_r _ [5, 6, 7, 8, 9] (by decide +kernel) (by decide +kernel)
set_option maxRecDepth 20000 in
theorem gJx4a65c_get_915e3_J15_checkIndex_7cf53 : GoodIn wsJx4a65c_get_915e3 (va_wsS RJx4a65c 118 yJ15_checkIndex_7cf53 wsJ15_checkIndex_7cf53) := goodIn_app (goodIn_of _ (by decide +kernel)) ggJx4a65c_get_915e3_J15_checkIndex_7cf53
set_option maxRecDepth 20000 in
theorem ggJx4a65c_get_915e3_Jx4a65c_elementData_915e3 : GoodIn wsJx4a65c_get_915e3 wsJx4a65c_elementData_915e3 := goodIn_r _ [14, 15, 16, 17, 18] (by decide +kernel) (by decide +kernel)
set_option maxRecDepth 20000 in
theorem gJx4a65c_get_915e3_Jx4a65c_elementData_915e3 : GoodIn wsJx4a65c_get_915e3 (wsV RJx4a65c 123 RJx4a65c yJx4a65c_elementData_915e3 wsJx4a65c_elementData_915e3) := goodIn_app (goodIn_of _ (by decide +kernel)) ggJx4a65c_get_915e3_Jx4a65c_elementData_915e3
theorem dJx4a65c_get_915e3_0 : decode cJx4a65c_get_915e3 0 = .ok (.iload_n 1, 1) := by decide +kernel
theorem dJx4a65c_get_915e3_1 : decode cJx4a65c_get_915e3 1 = .ok (.aload_n 0, 1) := by decide +kernel
theorem dJx4a65c_get_915e3_2 : decode cJx4a65c_get_915e3 2 = .ok (.getfield 48, 3) := by decide +kernel
theorem dJx4a65c_get_915e3_5 : decode cJx4a65c_get_915e3 5 = .ok (.invokestatic 118, 3) := by decide +kernel
theorem dJx4a65c_get_915e3_8 : decode cJx4a65c_get_915e3 8 = .ok (.pop, 1) := by decide +kernel
theorem dJx4a65c_get_915e3_9 : decode cJx4a65c_get_915e3 9 = .ok (.aload_n 0, 1) := by decide +kernel
theorem dJx4a65c_get_915e3_10 : decode cJx4a65c_get_915e3 10 = .ok (.iload_n 1, 1) := by decide +kernel
theorem dJx4a65c_get_915e3_11 : decode cJx4a65c_get_915e3 11 = .ok (.invokevirtual 123, 3) := by decide +kernel
theorem dJx4a65c_get_915e3_14 : decode cJx4a65c_get_915e3 14 = .ok (.areturn, 1) := by decide +kernel
set_option maxRecDepth 20000 in
theorem ggJx4a65c_add_72be8_Jx4a65c_grow_d5877 : GoodIn wsJx4a65c_add_72be8 wsJx4a65c_grow_d5877 := goodIn_r _ [6, 1, 7, 8, 9, 5, 10, 11, 12, 13, 14, 15, 16, 17, 18, 19, 20, 21, 22, 23, 24, 25, 26, 27, 28, 29, 30, 31, 32, 33, 34, 35, 36, 37, 38, 39, 40, 41, 42, 43, 44, 45, 46, 47, 48, 49] (by decide +kernel) (by decide +kernel)
set_option maxRecDepth 20000 in
theorem gJx4a65c_add_72be8_Jx4a65c_grow_d5877 : GoodIn wsJx4a65c_add_72be8 (wsV RJx4a65c 129 RJx4a65c yJx4a65c_grow_d5877 wsJx4a65c_grow_d5877) := goodIn_app (goodIn_of _ (by decide +kernel)) ggJx4a65c_add_72be8_Jx4a65c_grow_d5877
theorem dJx4a65c_add_72be8_0 : decode cJx4a65c_add_72be8 0 = .ok (.iload_n 3, 1) := by decide +kernel
theorem dJx4a65c_add_72be8_1 : decode cJx4a65c_add_72be8 1 = .ok (.aload_n 2, 1) := by decide +kernel
theorem dJx4a65c_add_72be8_2 : decode cJx4a65c_add_72be8 2 = .ok (.arraylength, 1) := by decide +kernel
theorem dJx4a65c_add_72be8_3 : decode cJx4a65c_add_72be8 3 = .ok (.if_icmp .ne 8, 3) := by decide +kernel
theorem dJx4a65c_add_72be8_6 : decode cJx4a65c_add_72be8 6 = .ok (.aload_n 0, 1) := by decide +kernel
theorem dJx4a65c_add_72be8_7 : decode cJx4a65c_add_72be8 7 = .ok (.invokevirtual 129, 3) := by decide +kernel
theorem dJx4a65c_add_72be8_10 : decode cJx4a65c_add_72be8 10 = .ok (.astore_n 2, 1) := by decide +kernel
theorem dJx4a65c_add_72be8_11 : decode cJx4a65c_add_72be8 11 = .ok (.aload_n 2, 1) := by decide +kernel
theorem dJx4a65c_add_72be8_12 : decode cJx4a65c_add_72be8 12 = .ok (.iload_n 3, 1) := by decide +kernel
theorem dJx4a65c_add_72be8_13 : decode cJx4a65c_add_72be8 13 = .ok (.aload_n 1, 1) := by decide +kernel
theorem dJx4a65c_add_72be8_14 : decode cJx4a65c_add_72be8 14 = .ok (.aastore, 1) := by decide +kernel
theorem dJx4a65c_add_72be8_15 : decode cJx4a65c_add_72be8 15 = .ok (.aload_n 0, 1) := by decide +kernel
theorem dJx4a65c_add_72be8_16 : decode cJx4a65c_add_72be8 16 = .ok (.iload_n 3, 1) := by decide +kernel
theorem dJx4a65c_add_72be8_17 : decode cJx4a65c_add_72be8 17 = .ok (.iconst 1, 1) := by decide +kernel
theorem dJx4a65c_add_72be8_18 : decode cJx4a65c_add_72be8 18 = .ok (.iadd, 1) := by decide +kernel
theorem dJx4a65c_add_72be8_19 : decode cJx4a65c_add_72be8 19 = .ok (.putfield 48, 3) := by decide +kernel
theorem dJx4a65c_add_72be8_22 : decode cJx4a65c_add_72be8 22 = .ok (.return_, 1) := by decide +kernel
set_option maxRecDepth 20000 in
theorem ggJx4a65c_add_9ea2d_Jx4a65c_add_72be8 : GoodIn wsJx4a65c_add_9ea2d wsJx4a65c_add_72be8 := goodIn_r _ [9, 4, 10, 11, 12, 8, 13, 14, 15, 16, 17, 3, 18, 19, 20, 21, 22, 23, 24, 25, 26, 27, 28, 29, 30, 31, 32, 33, 34, 35, 36, 37, 38, 39, 40, 41, 42, 43, 44, 45, 46, 47, 48, 49, 50, 51, 52, 53, 54, 55] (by decide +kernel) (by decide +kernel)
set_option maxRecDepth 20000 in
theorem gJx4a65c_add_9ea2d_Jx4a65c_add_72be8 : GoodIn wsJx4a65c_add_9ea2d (wsV RJx4a65c 131 RJx4a65c yJx4a65c_add_72be8 wsJx4a65c_add_72be8) := goodIn_app (goodIn_of _ (by decide +kernel)) ggJx4a65c_add_9ea2d_Jx4a65c_add_72be8
theorem dJx4a65c_add_9ea2d_0 : decode cJx4a65c_add_9ea2d 0 = .ok (.aload_n 0, 1) := by decide +kernel
theorem dJx4a65c_add_9ea2d_1 : decode cJx4a65c_add_9ea2d 1 = .ok (.dup, 1) := by decide +kernel
theorem dJx4a65c_add_9ea2d_2 : decode cJx4a65c_add_9ea2d 2 = .ok (.getfield 63, 3) := by decide +kernel
theorem dJx4a65c_add_9ea2d_5 : decode cJx4a65c_add_9ea2d 5 = .ok (.iconst 1, 1) := by decide +kernel
theorem dJx4a65c_add_9ea2d_6 : decode cJx4a65c_add_9ea2d 6 = .ok (.iadd, 1) := by decide +kernel
theorem dJx4a65c_add_9ea2d_7 : decode cJx4a65c_add_9ea2d 7 = .ok (.putfield 63, 3) := by decide +kernel
theorem dJx4a65c_add_9ea2d_10 : decode cJx4a65c_add_9ea2d 10 = .ok (.aload_n 0, 1) := by decide +kernel
theorem dJx4a65c_add_9ea2d_11 : decode cJx4a65c_add_9ea2d 11 = .ok (.aload_n 1, 1) := by decide +kernel
theorem dJx4a65c_add_9ea2d_12 : decode cJx4a65c_add_9ea2d 12 = .ok (.aload_n 0, 1) := by decide +kernel
theorem dJx4a65c_add_9ea2d_13 : decode cJx4a65c_add_9ea2d 13 = .ok (.getfield 9, 3) := by decide +kernel
theorem dJx4a65c_add_9ea2d_16 : decode cJx4a65c_add_9ea2d 16 = .ok (.aload_n 0, 1) := by decide +kernel
theorem dJx4a65c_add_9ea2d_17 : decode cJx4a65c_add_9ea2d 17 = .ok (.getfield 48, 3) := by decide +kernel
theorem dJx4a65c_add_9ea2d_20 : decode cJx4a65c_add_9ea2d 20 = .ok (.invokevirtual 131, 3) := by decide +kernel
theorem dJx4a65c_add_9ea2d_23 : decode cJx4a65c_add_9ea2d 23 = .ok (.iconst 1, 1) := by decide +kernel
theorem dJx4a65c_add_9ea2d_24 : decode cJx4a65c_add_9ea2d 24 = .ok (.ireturn, 1) := by decide +kernel
theorem dJ7_fill_53178_0 : decode cJ7_fill_53178 0 = .ok (.iconst 0, 1) := by decide +kernel
theorem dJ7_fill_53178_1 : decode cJ7_fill_53178 1 = .ok (.istore_n 2, 1) := by decide +kernel
theorem dJ7_fill_53178_2 : decode cJ7_fill_53178 2 = .ok (.aload_n 0, 1) := by decide +kernel
theorem dJ7_fill_53178_3 : decode cJ7_fill_53178 3 = .ok (.arraylength, 1) := by decide +kernel
theorem dJ7_fill_53178_4 : decode cJ7_fill_53178 4 = .ok (.istore_n 3, 1) := by decide +kernel
theorem dJ7_fill_53178_5 : decode cJ7_fill_53178 5 = .ok (.iload_n 2, 1) := by decide +kernel
theorem dJ7_fill_53178_6 : decode cJ7_fill_53178 6 = .ok (.iload_n 3, 1) := by decide +kernel
theorem dJ7_fill_53178_7 : decode cJ7_fill_53178 7 = .ok (.if_icmp .ge 13, 3) := by decide +kernel
theorem dJ7_fill_53178_10 : decode cJ7_fill_53178 10 = .ok (.aload_n 0, 1) := by decide +kernel
theorem dJ7_fill_53178_11 : decode cJ7_fill_53178 11 = .ok (.iload_n 2, 1) := by decide +kernel
theorem dJ7_fill_53178_12 : decode cJ7_fill_53178 12 = .ok (.iload_n 1, 1) := by decide +kernel
theorem dJ7_fill_53178_13 : decode cJ7_fill_53178 13 = .ok (.iastore, 1) := by decide +kernel
theorem dJ7_fill_53178_14 : decode cJ7_fill_53178 14 = .ok (.iinc 2 1, 3) := by decide +kernel
theorem dJ7_fill_53178_17 : decode cJ7_fill_53178 17 = .ok (.goto (-12), 3) := by decide +kernel
theorem dJ7_fill_53178_20 : decode cJ7_fill_53178 20 = .ok (.return_, 1) := by decide +kernel
set_option maxRecDepth 20000 in
theorem ggJ7_copyOf_1904c_J7_copyOf_6403c : GoodIn wsJ7_copyOf_1904c wsJ7_copyOf_6403c := goodIn_r _ [8, 9, 10, 11, 12, 13, 14, 15, 16, 17, 18] (by decide +kernel) (by decide +kernel)
set_option maxRecDepth 20000 in
theorem gJ7_copyOf_1904c_J7_copyOf_6403c : GoodIn wsJ7_copyOf_1904c (va_wsS RJ7 300 yJ7_copyOf_6403c wsJ7_copyOf_6403c) := goodIn_app (goodIn_of _ (by decide +kernel)) ggJ7_copyOf_1904c_J7_copyOf_6403c
theorem dJ7_copyOf_1904c_0 : decode cJ7_copyOf_1904c 0 = .ok (.aload_n 0, 1) := by decide +kernel
theorem dJ7_copyOf_1904c_1 : decode cJ7_copyOf_1904c 1 = .ok (.iload_n 1, 1) := by decide +kernel
theorem dJ7_copyOf_1904c_2 : decode cJ7_copyOf_1904c 2 = .ok (.aload_n 0, 1) := by decide +kernel
theorem dJ7_copyOf_1904c_3 : decode cJ7_copyOf_1904c 3 = .ok (.invokevirtual 86, 3) := by decide +kernel
theorem dJ7_copyOf_1904c_6 : decode cJ7_copyOf_1904c 6 = .ok (.invokestatic 300, 3) := by decide +kernel
theorem dJ7_copyOf_1904c_9 : decode cJ7_copyOf_1904c 9 = .ok (.areturn, 1) := by decide +kernel
theorem dJ7_copyOf_6403c_0 : decode cJ7_copyOf_6403c 0 = .ok (.aload_n 2, 1) := by decide +kernel
theorem dJ7_copyOf_6403c_1 : decode cJ7_copyOf_6403c 1 = .ok (.ldc 110, 2) := by decide +kernel
theorem dJ7_copyOf_6403c_3 : decode cJ7_copyOf_6403c 3 = .ok (.if_acmp .ne 10, 3) := by decide +kernel
theorem dJ7_copyOf_6403c_6 : decode cJ7_copyOf_6403c 6 = .ok (.iload_n 1, 1) := by decide +kernel
theorem dJ7_copyOf_6403c_7 : decode cJ7_copyOf_6403c 7 = .ok (.anewarray 2, 3) := by decide +kernel
theorem dJ7_copyOf_6403c_10 : decode cJ7_copyOf_6403c 10 = .ok (.goto 14, 3) := by decide +kernel
theorem dJ7_copyOf_6403c_13 : decode cJ7_copyOf_6403c 13 = .ok (.aload_n 2, 1) := by decide +kernel
theorem dJ7_copyOf_6403c_14 : decode cJ7_copyOf_6403c 14 = .ok (.invokevirtual 90, 3) := by decide +kernel
theorem dJ7_copyOf_6403c_17 : decode cJ7_copyOf_6403c 17 = .ok (.iload_n 1, 1) := by decide +kernel
theorem dJ7_copyOf_6403c_18 : decode cJ7_copyOf_6403c 18 = .ok (.invokestatic 95, 3) := by decide +kernel
theorem dJ7_copyOf_6403c_21 : decode cJ7_copyOf_6403c 21 = .ok (.checkcast 110, 3) := by decide +kernel
theorem dJ7_copyOf_6403c_24 : decode cJ7_copyOf_6403c 24 = .ok (.astore_n 3, 1) := by decide +kernel
theorem dJ7_copyOf_6403c_25 : decode cJ7_copyOf_6403c 25 = .ok (.aload_n 0, 1) := by decide +kernel
theorem dJ7_copyOf_6403c_26 : decode cJ7_copyOf_6403c 26 = .ok (.iconst 0, 1) := by decide +kernel
theorem dJ7_copyOf_6403c_27 : decode cJ7_copyOf_6403c 27 = .ok (.aload_n 3, 1) := by decide +kernel
theorem dJ7_copyOf_6403c_28 : decode cJ7_copyOf_6403c 28 = .ok (.iconst 0, 1) := by decide +kernel
theorem dJ7_copyOf_6403c_29 : decode cJ7_copyOf_6403c 29 = .ok (.aload_n 0, 1) := by decide +kernel
theorem dJ7_copyOf_6403c_30 : decode cJ7_copyOf_6403c 30 = .ok (.arraylength, 1) := by decide +kernel
theorem dJ7_copyOf_6403c_31 : decode cJ7_copyOf_6403c 31 = .ok (.iload_n 1, 1) := by decide +kernel
theorem dJ7_copyOf_6403c_32 : decode cJ7_copyOf_6403c 32 = .ok (.invokestatic 304, 3) := by decide +kernel
theorem dJ7_copyOf_6403c_35 : decode cJ7_copyOf_6403c 35 = .ok (.invokestatic 150, 3) := by decide +kernel
theorem dJ7_copyOf_6403c_38 : decode cJ7_copyOf_6403c 38 = .ok (.aload_n 3, 1) := by decide +kernel
theorem dJ7_copyOf_6403c_39 : decode cJ7_copyOf_6403c 39 = .ok (.areturn, 1) := by decide +kernel
set_option maxRecDepth 20000 in
theorem ggJ15_checkIndex_7cf53_J3_checkIndex_8e157 : GoodIn wsJ15_checkIndex_7cf53 wsJ3_checkIndex_8e157 := goodIn_r _ [4] (by decide +kernel) (by decide +kernel)
set_option maxRecDepth 20000 in
theorem gJ15_checkIndex_7cf53_J3_checkIndex_8e157 : GoodIn wsJ15_checkIndex_7cf53 (va_wsS RJ15 105 yJ3_checkIndex_8e157 wsJ3_checkIndex_8e157) := goodIn_app (goodIn_of _ (by decide +kernel)) ggJ15_checkIndex_7cf53_J3_checkIndex_8e157
theorem dJ15_checkIndex_7cf53_0 : decode cJ15_checkIndex_7cf53 0 = .ok (.iload_n 0, 1) := by decide +kernel
theorem dJ15_checkIndex_7cf53_1 : decode cJ15_checkIndex_7cf53 1 = .ok (.iload_n 1, 1) := by decide +kernel
theorem dJ15_checkIndex_7cf53_2 : decode cJ15_checkIndex_7cf53 2 = .ok (.aconst_null, 1) := by decide +kernel
theorem dJ15_checkIndex_7cf53_3 : decode cJ15_checkIndex_7cf53 3 = .ok (.invokestatic 105, 3) := by decide +kernel
theorem dJ15_checkIndex_7cf53_6 : decode cJ15_checkIndex_7cf53 6 = .ok (.ireturn, 1) := by decide +kernel
set_option maxRecDepth 20000 in
theorem ggJ8_newLength_cabcc_J8_hugeLength_7cf53 : GoodIn wsJ8_newLength_cabcc wsJ8_hugeLength_7cf53 := goodIn_r _ [9, 5] (by decide +kernel) (by decide +kernel)
set_option maxRecDepth 20000 in
theorem gJ8_newLength_cabcc_J8_hugeLength_7cf53 : GoodIn wsJ8_newLength_cabcc (va_wsS RJ8 201 yJ8_hugeLength_7cf53 wsJ8_hugeLength_7cf53) := goodIn_app (goodIn_of _ (by decide +kernel)) ggJ8_newLength_cabcc_J8_hugeLength_7cf53
theorem dJ8_newLength_cabcc_0 : decode cJ8_newLength_cabcc 0 = .ok (.iload_n 0, 1) := by decide +kernel
theorem dJ8_newLength_cabcc_1 : decode cJ8_newLength_cabcc 1 = .ok (.iload_n 1, 1) := by decide +kernel
theorem dJ8_newLength_cabcc_2 : decode cJ8_newLength_cabcc 2 = .ok (.iload_n 2, 1) := by decide +kernel
theorem dJ8_newLength_cabcc_3 : decode cJ8_newLength_cabcc 3 = .ok (.invokestatic 194, 3) := by decide +kernel
theorem dJ8_newLength_cabcc_6 : decode cJ8_newLength_cabcc 6 = .ok (.iadd, 1) := by decide +kernel
theorem dJ8_newLength_cabcc_7 : decode cJ8_newLength_cabcc 7 = .ok (.istore_n 3, 1) := by decide +kernel
theorem dJ8_newLength_cabcc_8 : decode cJ8_newLength_cabcc 8 = .ok (.iconst 0, 1) := by decide +kernel
theorem dJ8_newLength_cabcc_9 : decode cJ8_newLength_cabcc 9 = .ok (.iload_n 3, 1) := by decide +kernel
theorem dJ8_newLength_cabcc_10 : decode cJ8_newLength_cabcc 10 = .ok (.if_icmp .ge 11, 3) := by decide +kernel
theorem dJ8_newLength_cabcc_13 : decode cJ8_newLength_cabcc 13 = .ok (.iload_n 3, 1) := by decide +kernel
theorem dJ8_newLength_cabcc_14 : decode cJ8_newLength_cabcc 14 = .ok (.ldc 200, 2) := by decide +kernel
theorem dJ8_newLength_cabcc_16 : decode cJ8_newLength_cabcc 16 = .ok (.if_icmp .gt 5, 3) := by decide +kernel
theorem dJ8_newLength_cabcc_19 : decode cJ8_newLength_cabcc 19 = .ok (.iload_n 3, 1) := by decide +kernel
theorem dJ8_newLength_cabcc_20 : decode cJ8_newLength_cabcc 20 = .ok (.ireturn, 1) := by decide +kernel
theorem dJ8_newLength_cabcc_21 : decode cJ8_newLength_cabcc 21 = .ok (.iload_n 0, 1) := by decide +kernel
theorem dJ8_newLength_cabcc_22 : decode cJ8_newLength_cabcc 22 = .ok (.iload_n 1, 1) := by decide +kernel
theorem dJ8_newLength_cabcc_23 : decode cJ8_newLength_cabcc 23 = .ok (.invokestatic 201, 3) := by decide +kernel
theorem dJ8_newLength_cabcc_26 : decode cJ8_newLength_cabcc 26 = .ok (.ireturn, 1) := by decide +kernel
theorem dJ8_hugeLength_7cf53_0 : decode cJ8_hugeLength_7cf53 0 = .ok (.iload_n 0, 1) := by decide +kernel
theorem dJ8_hugeLength_7cf53_1 : decode cJ8_hugeLength_7cf53 1 = .ok (.iload_n 1, 1) := by decide +kernel
theorem dJ8_hugeLength_7cf53_2 : decode cJ8_hugeLength_7cf53 2 = .ok (.iadd, 1) := by decide +kernel
theorem dJ8_hugeLength_7cf53_3 : decode cJ8_hugeLength_7cf53 3 = .ok (.istore_n 2, 1) := by decide +kernel
theorem dJ8_hugeLength_7cf53_4 : decode cJ8_hugeLength_7cf53 4 = .ok (.iload_n 2, 1) := by decide +kernel
theorem dJ8_hugeLength_7cf53_5 : decode cJ8_hugeLength_7cf53 5 = .ok (.ifCond .ge 44, 3) := by decide +kernel
theorem dJ8_hugeLength_7cf53_8 : decode cJ8_hugeLength_7cf53 8 = .ok (.new 204, 3) := by decide +kernel
theorem dJ8_hugeLength_7cf53_11 : decode cJ8_hugeLength_7cf53 11 = .ok (.dup, 1) := by decide +kernel
theorem dJ8_hugeLength_7cf53_12 : decode cJ8_hugeLength_7cf53 12 = .ok (.new 89, 3) := by decide +kernel
theorem dJ8_hugeLength_7cf53_15 : decode cJ8_hugeLength_7cf53 15 = .ok (.dup, 1) := by decide +kernel
theorem dJ8_hugeLength_7cf53_16 : decode cJ8_hugeLength_7cf53 16 = .ok (.invokespecial 91, 3) := by decide +kernel
theorem dJ8_hugeLength_7cf53_19 : decode cJ8_hugeLength_7cf53 19 = .ok (.ldc 206, 2) := by decide +kernel
theorem dJ8_hugeLength_7cf53_21 : decode cJ8_hugeLength_7cf53 21 = .ok (.invokevirtual 94, 3) := by decide +kernel
theorem dJ8_hugeLength_7cf53_24 : decode cJ8_hugeLength_7cf53 24 = .ok (.iload_n 0, 1) := by decide +kernel
theorem dJ8_hugeLength_7cf53_25 : decode cJ8_hugeLength_7cf53 25 = .ok (.invokevirtual 98, 3) := by decide +kernel
theorem dJ8_hugeLength_7cf53_28 : decode cJ8_hugeLength_7cf53 28 = .ok (.ldc 208, 2) := by decide +kernel
theorem dJ8_hugeLength_7cf53_30 : decode cJ8_hugeLength_7cf53 30 = .ok (.invokevirtual 94, 3) := by decide +kernel
theorem dJ8_hugeLength_7cf53_33 : decode cJ8_hugeLength_7cf53 33 = .ok (.iload_n 1, 1) := by decide +kernel
theorem dJ8_hugeLength_7cf53_34 : decode cJ8_hugeLength_7cf53 34 = .ok (.invokevirtual 98, 3) := by decide +kernel
theorem dJ8_hugeLength_7cf53_37 : decode cJ8_hugeLength_7cf53 37 = .ok (.ldc 210, 2) := by decide +kernel
theorem dJ8_hugeLength_7cf53_39 : decode cJ8_hugeLength_7cf53 39 = .ok (.invokevirtual 94, 3) := by decide +kernel
theorem dJ8_hugeLength_7cf53_42 : decode cJ8_hugeLength_7cf53 42 = .ok (.invokevirtual 101, 3) := by decide +kernel
theorem dJ8_hugeLength_7cf53_45 : decode cJ8_hugeLength_7cf53 45 = .ok (.invokespecial 212, 3) := by decide +kernel
theorem dJ8_hugeLength_7cf53_48 : decode cJ8_hugeLength_7cf53 48 = .ok (.athrow, 1) := by decide +kernel
theorem dJ8_hugeLength_7cf53_49 : decode cJ8_hugeLength_7cf53 49 = .ok (.iload_n 2, 1) := by decide +kernel
theorem dJ8_hugeLength_7cf53_50 : decode cJ8_hugeLength_7cf53 50 = .ok (.ldc 200, 2) := by decide +kernel
theorem dJ8_hugeLength_7cf53_52 : decode cJ8_hugeLength_7cf53 52 = .ok (.if_icmp .gt 6, 3) := by decide +kernel
theorem dJ8_hugeLength_7cf53_55 : decode cJ8_hugeLength_7cf53 55 = .ok (.ldc 200, 2) := by decide +kernel
theorem dJ8_hugeLength_7cf53_57 : decode cJ8_hugeLength_7cf53 57 = .ok (.ireturn, 1) := by decide +kernel
theorem dJ8_hugeLength_7cf53_58 : decode cJ8_hugeLength_7cf53 58 = .ok (.iload_n 2, 1) := by decide +kernel
theorem dJ8_hugeLength_7cf53_59 : decode cJ8_hugeLength_7cf53 59 = .ok (.ireturn, 1) := by decide +kernel
theorem dJ3_checkIndex_8e157_0 : decode cJ3_checkIndex_8e157 0 = .ok (.iload_n 0, 1) := by decide +kernel
theorem dJ3_checkIndex_8e157_1 : decode cJ3_checkIndex_8e157 1 = .ok (.ifCond .lt 8, 3) := by decide +kernel
theorem dJ3_checkIndex_8e157_4 : decode cJ3_checkIndex_8e157 4 = .ok (.iload_n 0, 1) := by decide +kernel
theorem dJ3_checkIndex_8e157_5 : decode cJ3_checkIndex_8e157 5 = .ok (.iload_n 1, 1) := by decide +kernel
theorem dJ3_checkIndex_8e157_6 : decode cJ3_checkIndex_8e157 6 = .ok (.if_icmp .lt 10, 3) := by decide +kernel
theorem dJ3_checkIndex_8e157_9 : decode cJ3_checkIndex_8e157 9 = .ok (.aload_n 2, 1) := by decide +kernel
theorem dJ3_checkIndex_8e157_10 : decode cJ3_checkIndex_8e157 10 = .ok (.iload_n 0, 1) := by decide +kernel
theorem dJ3_checkIndex_8e157_11 : decode cJ3_checkIndex_8e157 11 = .ok (.iload_n 1, 1) := by decide +kernel
theorem dJ3_checkIndex_8e157_12 : decode cJ3_checkIndex_8e157 12 = .ok (.invokestatic 95, 3) := by decide +kernel
theorem dJ3_checkIndex_8e157_15 : decode cJ3_checkIndex_8e157 15 = .ok (.athrow, 1) := by decide +kernel
theorem dJ3_checkIndex_8e157_16 : decode cJ3_checkIndex_8e157 16 = .ok (.iload_n 0, 1) := by decide +kernel
theorem dJ3_checkIndex_8e157_17 : decode cJ3_checkIndex_8e157 17 = .ok (.ireturn, 1) := by decide +kernel
set_option maxRecDepth 20000 in
theorem ggL_slip_X5_slip : GoodIn wsL_slip wsX5_slip := goodIn_ca (goodIn_ca (goodIn_ca (goodIn_r _ [6, 7, 8, 9, 10, 11, 12, 13, 14, 5, 15, 16, 17, 18, 19, 20, 21, 22, 23, 24, 25, 26, 27, 28, 29, 30, 31, 32, 33, 34, 35, 36, 37, 38, 39, 40, 41] (by decide +kernel) (by decide +kernel)) (goodIn_sub (fun _ h => List.mem_cons_of_mem _ (List.mem_append_left _ (List.mem_append_left _ (List.mem_append_right _ h)))) (by decide +kernel))) (goodIn_sub (fun _ h => List.mem_cons_of_mem _ (List.mem_append_left _ (List.mem_append_right _ h))) (by decide +kernel))) (goodIn_sub (fun _ h => List.mem_cons_of_mem _ (List.mem_append_right _ h)) (by decide +kernel))
set_option maxRecDepth 20000 in
theorem gL_slip_X5_slip : GoodIn wsL_slip (wsV RL 7 RX5 yX5_slip wsX5_slip) := goodIn_app (goodIn_of _ (by decide +kernel)) ggL_slip_X5_slip
theorem dL_slip_0 : decode cL_slip 0 = .ok (.aload_n 3, 1) := by decide +kernel
theorem dL_slip_1 : decode cL_slip 1 = .ok (.iconst 0, 1) := by decide +kernel
theorem dL_slip_2 : decode cL_slip 2 = .ok (.aload_n 0, 1) := by decide +kernel
theorem dL_slip_3 : decode cL_slip 3 = .ok (.iload_n 1, 1) := by decide +kernel
theorem dL_slip_4 : decode cL_slip 4 = .ok (.iload_n 2, 1) := by decide +kernel
theorem dL_slip_5 : decode cL_slip 5 = .ok (.invokevirtual 7, 3) := by decide +kernel
theorem dL_slip_8 : decode cL_slip 8 = .ok (.i2l, 1) := by decide +kernel
theorem dL_slip_9 : decode cL_slip 9 = .ok (.lastore, 1) := by decide +kernel
theorem dL_slip_10 : decode cL_slip 10 = .ok (.goto 15, 3) := by decide +kernel
theorem dL_slip_13 : decode cL_slip 13 = .ok (.astore 4, 2) := by decide +kernel
theorem dL_slip_15 : decode cL_slip 15 = .ok (.iconst 1, 1) := by decide +kernel
theorem dL_slip_16 : decode cL_slip 16 = .ok (.ireturn, 1) := by decide +kernel
theorem dL_slip_17 : decode cL_slip 17 = .ok (.astore 4, 2) := by decide +kernel
theorem dL_slip_19 : decode cL_slip 19 = .ok (.iconst 2, 1) := by decide +kernel
theorem dL_slip_20 : decode cL_slip 20 = .ok (.ireturn, 1) := by decide +kernel
theorem dL_slip_21 : decode cL_slip 21 = .ok (.astore 4, 2) := by decide +kernel
theorem dL_slip_23 : decode cL_slip 23 = .ok (.iconst 3, 1) := by decide +kernel
theorem dL_slip_24 : decode cL_slip 24 = .ok (.ireturn, 1) := by decide +kernel
theorem dL_slip_25 : decode cL_slip 25 = .ok (.iconst 0, 1) := by decide +kernel
theorem dL_slip_26 : decode cL_slip 26 = .ok (.ireturn, 1) := by decide +kernel
set_option maxRecDepth 20000 in
theorem ggL_copy_X5_copy : GoodIn wsL_copy wsX5_copy := goodIn_ca (goodIn_ca (goodIn_r _ [6, 7, 8, 9, 10, 11, 12, 13, 14, 15, 16, 17, 18, 19, 20, 5, 21, 22, 23, 24, 25, 26, 27, 28, 29, 30, 31, 32, 33, 34, 35, 36, 37, 38, 39, 40, 41, 42, 43, 44, 45, 46, 47, 48, 49, 50, 51, 52, 53, 54, 55, 56, 57, 58, 59, 60, 61, 62, 63, 64, 65, 66, 67, 68, 69, 70, 71, 72, 73, 74, 75, 76, 77, 78, 79, 80, 81, 82, 83, 84, 85, 86, 87, 88, 89, 90, 91, 92, 93, 94, 95, 96, 97, 98, 99, 100, 101, 102, 103, 104, 105, 106, 107, 108, 109, 110, 111, 112, 113, 114, 115, 116, 117, 118, 119, 120, 121, 122, 123, 124, 125, 126, 127, 128, 129, 130, 131, 132, 133, 134, 135, 136, 137, 138, 139, 140, 141, 142, 143, 144, 145, 146, 147, 148, 149, 150, 151, 152, 153, 154, 155, 156, 157, 158, 159, 160, 161, 162, 163, 164, 165, 166, 167, 168, 169, 170, 171, 172, 173, 174, 175, 176, 177, 178, 179, 180, 181, 182, 183, 184, 185] (by decide +kernel) (by decide +kernel)) (goodIn_sub (fun _ h => List.mem_cons_of_mem _ (List.mem_append_left _ (List.mem_append_right _ h))) (by decide +kernel))) (goodIn_sub (fun _ h => List.mem_cons_of_mem _ (List.mem_append_right _ h)) (by decide +kernel))
set_option maxRecDepth 20000 in
theorem gL_copy_X5_copy : GoodIn wsL_copy (wsV RL 19 RX5 yX5_copy wsX5_copy) := goodIn_app (goodIn_of _ (by decide +kernel)) ggL_copy_X5_copy
theorem dL_copy_0 : decode cL_copy 0 = .ok (.aload 5, 2) := by decide +kernel
theorem dL_copy_2 : decode cL_copy 2 = .ok (.iconst 0, 1) := by decide +kernel
theorem dL_copy_3 : decode cL_copy 3 = .ok (.aload_n 0, 1) := by decide +kernel
theorem dL_copy_4 : decode cL_copy 4 = .ok (.iload_n 1, 1) := by decide +kernel
theorem dL_copy_5 : decode cL_copy 5 = .ok (.iload_n 2, 1) := by decide +kernel
theorem dL_copy_6 : decode cL_copy 6 = .ok (.iload_n 3, 1) := by decide +kernel
theorem dL_copy_7 : decode cL_copy 7 = .ok (.iload 4, 2) := by decide +kernel
theorem dL_copy_9 : decode cL_copy 9 = .ok (.invokevirtual 19, 3) := by decide +kernel
theorem dL_copy_12 : decode cL_copy 12 = .ok (.i2l, 1) := by decide +kernel
theorem dL_copy_13 : decode cL_copy 13 = .ok (.lastore, 1) := by decide +kernel
theorem dL_copy_14 : decode cL_copy 14 = .ok (.goto 11, 3) := by decide +kernel
theorem dL_copy_17 : decode cL_copy 17 = .ok (.astore 6, 2) := by decide +kernel
theorem dL_copy_19 : decode cL_copy 19 = .ok (.iconst 1, 1) := by decide +kernel
theorem dL_copy_20 : decode cL_copy 20 = .ok (.ireturn, 1) := by decide +kernel
theorem dL_copy_21 : decode cL_copy 21 = .ok (.astore 6, 2) := by decide +kernel
theorem dL_copy_23 : decode cL_copy 23 = .ok (.iconst 2, 1) := by decide +kernel
theorem dL_copy_24 : decode cL_copy 24 = .ok (.ireturn, 1) := by decide +kernel
theorem dL_copy_25 : decode cL_copy 25 = .ok (.iconst 0, 1) := by decide +kernel
theorem dL_copy_26 : decode cL_copy 26 = .ok (.ireturn, 1) := by decide +kernel
set_option maxRecDepth 20000 in
theorem ggL_tellModel_X5_tellModel : GoodIn wsL_tellModel wsX5_tellModel := goodIn_ca (goodIn_ca (goodIn_r _ [6, 7, 8, 9, 10, 11, 12, 13, 14, 5, 15, 16, 17, 18, 19, 20, 21, 22, 23, 24, 25, 26, 27, 28, 29, 30, 31, 32, 33, 34, 35, 36, 37, 38, 39, 40, 41, 42, 43, 44, 45, 46, 47, 48, 49, 50, 51, 52, 53, 54, 55, 56, 57, 58, 59, 60, 61, 62, 63, 64, 65, 66, 67, 68, 69, 70] (by decide +kernel) (by decide +kernel)) (goodIn_sub (fun _ h => List.mem_cons_of_mem _ (List.mem_append_left _ (List.mem_append_right _ h))) (by decide +kernel))) (goodIn_sub (fun _ h => List.mem_cons_of_mem _ (List.mem_append_right _ h)) (by decide +kernel))
set_option maxRecDepth 20000 in
theorem gL_tellModel_X5_tellModel : GoodIn wsL_tellModel (wsV RL 23 RX5 yX5_tellModel wsX5_tellModel) := goodIn_app (goodIn_of _ (by decide +kernel)) ggL_tellModel_X5_tellModel
theorem dL_tellModel_0 : decode cL_tellModel 0 = .ok (.aload_n 2, 1) := by decide +kernel
theorem dL_tellModel_1 : decode cL_tellModel 1 = .ok (.iconst 0, 1) := by decide +kernel
theorem dL_tellModel_2 : decode cL_tellModel 2 = .ok (.aload_n 0, 1) := by decide +kernel
theorem dL_tellModel_3 : decode cL_tellModel 3 = .ok (.iload_n 1, 1) := by decide +kernel
theorem dL_tellModel_4 : decode cL_tellModel 4 = .ok (.invokevirtual 23, 3) := by decide +kernel
theorem dL_tellModel_7 : decode cL_tellModel 7 = .ok (.i2l, 1) := by decide +kernel
theorem dL_tellModel_8 : decode cL_tellModel 8 = .ok (.lastore, 1) := by decide +kernel
theorem dL_tellModel_9 : decode cL_tellModel 9 = .ok (.goto 9, 3) := by decide +kernel
theorem dL_tellModel_12 : decode cL_tellModel 12 = .ok (.astore_n 3, 1) := by decide +kernel
theorem dL_tellModel_13 : decode cL_tellModel 13 = .ok (.iconst 1, 1) := by decide +kernel
theorem dL_tellModel_14 : decode cL_tellModel 14 = .ok (.ireturn, 1) := by decide +kernel
theorem dL_tellModel_15 : decode cL_tellModel 15 = .ok (.astore_n 3, 1) := by decide +kernel
theorem dL_tellModel_16 : decode cL_tellModel 16 = .ok (.iconst 2, 1) := by decide +kernel
theorem dL_tellModel_17 : decode cL_tellModel 17 = .ok (.ireturn, 1) := by decide +kernel
theorem dL_tellModel_18 : decode cL_tellModel 18 = .ok (.iconst 0, 1) := by decide +kernel
theorem dL_tellModel_19 : decode cL_tellModel 19 = .ok (.ireturn, 1) := by decide +kernel
set_option maxRecDepth 20000 in
theorem ggL_pass_X5_pass : GoodIn wsL_pass wsX5_pass := goodIn_ca (goodIn_ca (goodIn_r _ [6, 7, 8, 9, 10, 11, 12, 13, 14, 15, 16, 17, 18] (by decide +kernel) (by decide +kernel)) (goodIn_sub (fun _ h => List.mem_cons_of_mem _ (List.mem_append_left _ (List.mem_append_right _ h))) (by decide +kernel))) (goodIn_sub (fun _ h => List.mem_cons_of_mem _ (List.mem_append_right _ h)) (by decide +kernel))
set_option maxRecDepth 20000 in
theorem gL_pass_X5_pass : GoodIn wsL_pass (wsV RL 27 RX5 yX5_pass wsX5_pass) := goodIn_app (goodIn_of _ (by decide +kernel)) ggL_pass_X5_pass
theorem dL_pass_0 : decode cL_pass 0 = .ok (.aload_n 2, 1) := by decide +kernel
theorem dL_pass_1 : decode cL_pass 1 = .ok (.iconst 0, 1) := by decide +kernel
theorem dL_pass_2 : decode cL_pass 2 = .ok (.aload_n 0, 1) := by decide +kernel
theorem dL_pass_3 : decode cL_pass 3 = .ok (.iload_n 1, 1) := by decide +kernel
theorem dL_pass_4 : decode cL_pass 4 = .ok (.invokevirtual 27, 3) := by decide +kernel
theorem dL_pass_7 : decode cL_pass 7 = .ok (.i2l, 1) := by decide +kernel
theorem dL_pass_8 : decode cL_pass 8 = .ok (.lastore, 1) := by decide +kernel
theorem dL_pass_9 : decode cL_pass 9 = .ok (.goto 9, 3) := by decide +kernel
theorem dL_pass_12 : decode cL_pass 12 = .ok (.astore_n 3, 1) := by decide +kernel
theorem dL_pass_13 : decode cL_pass 13 = .ok (.iconst 1, 1) := by decide +kernel
theorem dL_pass_14 : decode cL_pass 14 = .ok (.ireturn, 1) := by decide +kernel
theorem dL_pass_15 : decode cL_pass 15 = .ok (.astore_n 3, 1) := by decide +kernel
theorem dL_pass_16 : decode cL_pass 16 = .ok (.iconst 2, 1) := by decide +kernel
theorem dL_pass_17 : decode cL_pass 17 = .ok (.ireturn, 1) := by decide +kernel
theorem dL_pass_18 : decode cL_pass 18 = .ok (.iconst 0, 1) := by decide +kernel
theorem dL_pass_19 : decode cL_pass 19 = .ok (.ireturn, 1) := by decide +kernel
set_option maxRecDepth 20000 in
theorem ggL_correct_X5_correct : GoodIn wsL_correct wsX5_correct := goodIn_ca (goodIn_ca (goodIn_r _ [6, 7, 8, 9, 10, 11, 12, 13, 14, 15, 16, 17, 5, 18, 19, 20, 21, 22, 23, 24, 25, 26, 27, 28, 29, 30, 31, 32, 33, 34, 35, 36, 37, 38, 39, 40, 41, 42, 43, 44, 45, 46, 47, 48, 49, 50, 51, 52, 53, 54, 55, 56, 57, 58, 59, 60, 61, 62, 63, 64, 65, 66, 67, 68, 69, 70, 71, 72, 73, 74, 75, 76, 77, 78, 79, 80, 81, 82, 83, 84, 85, 86, 87, 88, 89, 90, 91, 92, 93, 94, 95, 96, 97, 98, 99, 100, 101, 102, 103, 104, 105, 106, 107, 108, 109, 110, 111, 112, 113, 114, 115, 116, 117, 118, 119, 120, 121, 122, 123, 124, 125, 126, 127, 128, 129, 130, 131, 132, 133, 134, 135, 136, 137, 138, 139, 140, 141, 142, 143, 144, 145, 146, 147, 148, 149, 150, 151, 152, 153, 154, 155, 156, 157, 158, 159, 160, 161, 162, 163, 164, 165, 166, 167, 168, 169, 170, 171, 172, 173, 174, 175, 176, 177, 178] (by decide +kernel) (by decide +kernel)) (goodIn_sub (fun _ h => List.mem_cons_of_mem _ (List.mem_append_left _ (List.mem_append_right _ h))) (by decide +kernel))) (goodIn_sub (fun _ h => List.mem_cons_of_mem _ (List.mem_append_right _ h)) (by decide +kernel))
set_option maxRecDepth 20000 in
theorem gL_correct_X5_correct : GoodIn wsL_correct (wsV RL 30 RX5 yX5_correct wsX5_correct) := goodIn_app (goodIn_of _ (by decide +kernel)) ggL_correct_X5_correct
theorem dL_correct_0 : decode cL_correct 0 = .ok (.aload 5, 2) := by decide +kernel
theorem dL_correct_2 : decode cL_correct 2 = .ok (.iconst 0, 1) := by decide +kernel
theorem dL_correct_3 : decode cL_correct 3 = .ok (.aload_n 0, 1) := by decide +kernel
theorem dL_correct_4 : decode cL_correct 4 = .ok (.iload_n 1, 1) := by decide +kernel
theorem dL_correct_5 : decode cL_correct 5 = .ok (.iload_n 2, 1) := by decide +kernel
theorem dL_correct_6 : decode cL_correct 6 = .ok (.iload_n 3, 1) := by decide +kernel
theorem dL_correct_7 : decode cL_correct 7 = .ok (.iload 4, 2) := by decide +kernel
theorem dL_correct_9 : decode cL_correct 9 = .ok (.invokevirtual 30, 3) := by decide +kernel
theorem dL_correct_12 : decode cL_correct 12 = .ok (.i2l, 1) := by decide +kernel
theorem dL_correct_13 : decode cL_correct 13 = .ok (.lastore, 1) := by decide +kernel
theorem dL_correct_14 : decode cL_correct 14 = .ok (.goto 11, 3) := by decide +kernel
theorem dL_correct_17 : decode cL_correct 17 = .ok (.astore 6, 2) := by decide +kernel
theorem dL_correct_19 : decode cL_correct 19 = .ok (.iconst 1, 1) := by decide +kernel
theorem dL_correct_20 : decode cL_correct 20 = .ok (.ireturn, 1) := by decide +kernel
theorem dL_correct_21 : decode cL_correct 21 = .ok (.astore 6, 2) := by decide +kernel
theorem dL_correct_23 : decode cL_correct 23 = .ok (.iconst 2, 1) := by decide +kernel
theorem dL_correct_24 : decode cL_correct 24 = .ok (.ireturn, 1) := by decide +kernel
theorem dL_correct_25 : decode cL_correct 25 = .ok (.iconst 0, 1) := by decide +kernel
theorem dL_correct_26 : decode cL_correct 26 = .ok (.ireturn, 1) := by decide +kernel
set_option maxRecDepth 20000 in
theorem ggL_workIn_X5_workIn : GoodIn wsL_workIn wsX5_workIn := goodIn_ca (goodIn_ca (goodIn_r _ [6, 7, 8, 9, 10, 11, 12, 13, 14, 5, 15, 16, 17, 18, 19, 20, 21, 22, 23, 24, 25, 26, 27, 28, 29, 30, 31, 32, 33, 34, 35, 36, 37, 38, 39, 40, 41, 42, 43, 44, 45, 46, 47, 48, 49, 50, 51, 52, 53, 54, 55, 56, 57, 58, 59, 60, 61, 62, 63, 64, 65, 66, 67, 68, 69, 70, 71, 72, 73, 74, 75, 76, 77, 78, 79, 80, 81, 82, 83, 84, 85, 86, 87, 88, 89, 90, 91, 92, 93, 94, 95, 96, 97, 98, 99, 100, 101, 102, 103, 104, 105, 106, 107, 108, 109, 110, 111, 112, 113, 114, 115, 116, 117, 118, 119, 120, 121, 122, 123, 124] (by decide +kernel) (by decide +kernel)) (goodIn_sub (fun _ h => List.mem_cons_of_mem _ (List.mem_append_left _ (List.mem_append_right _ h))) (by decide +kernel))) (goodIn_sub (fun _ h => List.mem_cons_of_mem _ (List.mem_append_right _ h)) (by decide +kernel))
set_option maxRecDepth 20000 in
theorem gL_workIn_X5_workIn : GoodIn wsL_workIn (wsV RL 34 RX5 yX5_workIn wsX5_workIn) := goodIn_app (goodIn_of _ (by decide +kernel)) ggL_workIn_X5_workIn
theorem dL_workIn_0 : decode cL_workIn 0 = .ok (.aload_n 3, 1) := by decide +kernel
theorem dL_workIn_1 : decode cL_workIn 1 = .ok (.iconst 0, 1) := by decide +kernel
theorem dL_workIn_2 : decode cL_workIn 2 = .ok (.aload_n 0, 1) := by decide +kernel
theorem dL_workIn_3 : decode cL_workIn 3 = .ok (.iload_n 1, 1) := by decide +kernel
theorem dL_workIn_4 : decode cL_workIn 4 = .ok (.iload_n 2, 1) := by decide +kernel
theorem dL_workIn_5 : decode cL_workIn 5 = .ok (.invokevirtual 34, 3) := by decide +kernel
theorem dL_workIn_8 : decode cL_workIn 8 = .ok (.i2l, 1) := by decide +kernel
theorem dL_workIn_9 : decode cL_workIn 9 = .ok (.lastore, 1) := by decide +kernel
theorem dL_workIn_10 : decode cL_workIn 10 = .ok (.goto 11, 3) := by decide +kernel
theorem dL_workIn_13 : decode cL_workIn 13 = .ok (.astore 4, 2) := by decide +kernel
theorem dL_workIn_15 : decode cL_workIn 15 = .ok (.iconst 1, 1) := by decide +kernel
theorem dL_workIn_16 : decode cL_workIn 16 = .ok (.ireturn, 1) := by decide +kernel
theorem dL_workIn_17 : decode cL_workIn 17 = .ok (.astore 4, 2) := by decide +kernel
theorem dL_workIn_19 : decode cL_workIn 19 = .ok (.iconst 2, 1) := by decide +kernel
theorem dL_workIn_20 : decode cL_workIn 20 = .ok (.ireturn, 1) := by decide +kernel
theorem dL_workIn_21 : decode cL_workIn 21 = .ok (.iconst 0, 1) := by decide +kernel
theorem dL_workIn_22 : decode cL_workIn 22 = .ok (.ireturn, 1) := by decide +kernel
set_option maxRecDepth 20000 in
theorem ggL_lend_X5_lend : GoodIn wsL_lend wsX5_lend := goodIn_ca (goodIn_ca (goodIn_ca (goodIn_r _ [6, 7, 8, 9, 10, 11, 12, 13, 14, 15, 16, 17, 18, 19, 20, 21, 22, 5, 23, 24, 25, 26, 27, 28, 29, 30, 31, 32, 33, 34, 35, 36, 37, 38, 39, 40, 41, 42, 43, 44, 45, 46, 47, 48, 49, 50, 51, 52, 53, 54, 55, 56, 57, 58, 59, 60, 61, 62, 63, 64, 65, 66, 67, 68, 69, 70, 71, 72, 73, 74, 75, 76, 77, 78, 79, 80, 81, 82, 83, 84, 85, 86, 87, 88, 89, 90, 91, 92, 93, 94, 95, 96, 97, 98, 99, 100, 101, 102, 103, 104, 105, 106, 107, 108, 109, 110, 111, 112, 113, 114, 115, 116, 117, 118, 119, 120, 121, 122, 123, 124, 125, 126, 127, 128, 129, 130, 131, 132, 133, 134, 135, 136, 137, 138, 139, 140, 141, 142, 143, 144, 145, 146, 147, 148, 149, 150, 151, 152, 153, 154, 155, 156, 157, 158, 159, 160, 161, 162] (by decide +kernel) (by decide +kernel)) (goodIn_sub (fun _ h => List.mem_cons_of_mem _ (List.mem_append_left _ (List.mem_append_left _ (List.mem_append_right _ h)))) (by decide +kernel))) (goodIn_sub (fun _ h => List.mem_cons_of_mem _ (List.mem_append_left _ (List.mem_append_right _ h))) (by decide +kernel))) (goodIn_sub (fun _ h => List.mem_cons_of_mem _ (List.mem_append_right _ h)) (by decide +kernel))
set_option maxRecDepth 20000 in
theorem gL_lend_X5_lend : GoodIn wsL_lend (wsV RL 37 RX5 yX5_lend wsX5_lend) := goodIn_app (goodIn_of _ (by decide +kernel)) ggL_lend_X5_lend
theorem dL_lend_0 : decode cL_lend 0 = .ok (.aload 5, 2) := by decide +kernel
theorem dL_lend_2 : decode cL_lend 2 = .ok (.iconst 0, 1) := by decide +kernel
theorem dL_lend_3 : decode cL_lend 3 = .ok (.aload_n 0, 1) := by decide +kernel
theorem dL_lend_4 : decode cL_lend 4 = .ok (.iload_n 1, 1) := by decide +kernel
theorem dL_lend_5 : decode cL_lend 5 = .ok (.iload_n 2, 1) := by decide +kernel
theorem dL_lend_6 : decode cL_lend 6 = .ok (.iload_n 3, 1) := by decide +kernel
theorem dL_lend_7 : decode cL_lend 7 = .ok (.iload 4, 2) := by decide +kernel
theorem dL_lend_9 : decode cL_lend 9 = .ok (.invokevirtual 37, 3) := by decide +kernel
theorem dL_lend_12 : decode cL_lend 12 = .ok (.i2l, 1) := by decide +kernel
theorem dL_lend_13 : decode cL_lend 13 = .ok (.lastore, 1) := by decide +kernel
theorem dL_lend_14 : decode cL_lend 14 = .ok (.goto 15, 3) := by decide +kernel
theorem dL_lend_17 : decode cL_lend 17 = .ok (.astore 6, 2) := by decide +kernel
theorem dL_lend_19 : decode cL_lend 19 = .ok (.iconst 1, 1) := by decide +kernel
theorem dL_lend_20 : decode cL_lend 20 = .ok (.ireturn, 1) := by decide +kernel
theorem dL_lend_21 : decode cL_lend 21 = .ok (.astore 6, 2) := by decide +kernel
theorem dL_lend_23 : decode cL_lend 23 = .ok (.iconst 2, 1) := by decide +kernel
theorem dL_lend_24 : decode cL_lend 24 = .ok (.ireturn, 1) := by decide +kernel
theorem dL_lend_25 : decode cL_lend 25 = .ok (.astore 6, 2) := by decide +kernel
theorem dL_lend_27 : decode cL_lend 27 = .ok (.iconst 3, 1) := by decide +kernel
theorem dL_lend_28 : decode cL_lend 28 = .ok (.ireturn, 1) := by decide +kernel
theorem dL_lend_29 : decode cL_lend 29 = .ok (.iconst 0, 1) := by decide +kernel
theorem dL_lend_30 : decode cL_lend 30 = .ok (.ireturn, 1) := by decide +kernel
set_option maxRecDepth 20000 in
theorem ggL_giveBack_X5_giveBack : GoodIn wsL_giveBack wsX5_giveBack := goodIn_ca (goodIn_ca (goodIn_r _ [6, 7, 8, 9, 10, 11, 12, 13, 14, 15, 16, 17, 18, 19, 20, 21, 5, 22, 23, 24, 25, 26, 27, 28, 29, 30, 31, 32, 33, 34, 35, 36, 37, 38, 39, 40, 41, 42, 43, 44, 45, 46, 47, 48, 49, 50, 51, 52, 53, 54, 55, 56, 57, 58, 59, 60, 61, 62, 63, 64, 65, 66, 67, 68, 69, 70, 71, 72, 73, 74, 75, 76, 77, 78, 79, 80, 81, 82, 83, 84, 85, 86, 87, 88, 89, 90, 91, 92, 93, 94, 95, 96, 97, 98, 99, 100, 101, 102, 103, 104, 105, 106] (by decide +kernel) (by decide +kernel)) (goodIn_sub (fun _ h => List.mem_cons_of_mem _ (List.mem_append_left _ (List.mem_append_right _ h))) (by decide +kernel))) (goodIn_sub (fun _ h => List.mem_cons_of_mem _ (List.mem_append_right _ h)) (by decide +kernel))
set_option maxRecDepth 20000 in
theorem gL_giveBack_X5_giveBack : GoodIn wsL_giveBack (wsV RL 40 RX5 yX5_giveBack wsX5_giveBack) := goodIn_app (goodIn_of _ (by decide +kernel)) ggL_giveBack_X5_giveBack
theorem dL_giveBack_0 : decode cL_giveBack 0 = .ok (.aload_n 2, 1) := by decide +kernel
theorem dL_giveBack_1 : decode cL_giveBack 1 = .ok (.iconst 0, 1) := by decide +kernel
theorem dL_giveBack_2 : decode cL_giveBack 2 = .ok (.aload_n 0, 1) := by decide +kernel
theorem dL_giveBack_3 : decode cL_giveBack 3 = .ok (.iload_n 1, 1) := by decide +kernel
theorem dL_giveBack_4 : decode cL_giveBack 4 = .ok (.invokevirtual 40, 3) := by decide +kernel
theorem dL_giveBack_7 : decode cL_giveBack 7 = .ok (.i2l, 1) := by decide +kernel
theorem dL_giveBack_8 : decode cL_giveBack 8 = .ok (.lastore, 1) := by decide +kernel
theorem dL_giveBack_9 : decode cL_giveBack 9 = .ok (.goto 9, 3) := by decide +kernel
theorem dL_giveBack_12 : decode cL_giveBack 12 = .ok (.astore_n 3, 1) := by decide +kernel
theorem dL_giveBack_13 : decode cL_giveBack 13 = .ok (.iconst 1, 1) := by decide +kernel
theorem dL_giveBack_14 : decode cL_giveBack 14 = .ok (.ireturn, 1) := by decide +kernel
theorem dL_giveBack_15 : decode cL_giveBack 15 = .ok (.astore_n 3, 1) := by decide +kernel
theorem dL_giveBack_16 : decode cL_giveBack 16 = .ok (.iconst 2, 1) := by decide +kernel
theorem dL_giveBack_17 : decode cL_giveBack 17 = .ok (.ireturn, 1) := by decide +kernel
theorem dL_giveBack_18 : decode cL_giveBack 18 = .ok (.iconst 0, 1) := by decide +kernel
theorem dL_giveBack_19 : decode cL_giveBack 19 = .ok (.ireturn, 1) := by decide +kernel
set_option maxRecDepth 20000 in
theorem ggL_reading_X5_reading : GoodIn wsL_reading wsX5_reading := goodIn_ca (goodIn_r _ [6, 7, 8, 9, 10, 5, 11, 12, 13, 14, 15, 16, 17, 18, 19, 20, 21, 22, 23, 24, 25, 26, 27, 28, 29, 30, 31, 32, 33, 34, 35, 36, 37, 38, 39, 40, 41, 42, 43, 44, 45, 46, 47, 48, 49, 50, 51, 52, 53, 54, 55, 56, 57, 58] (by decide +kernel) (by decide +kernel)) (goodIn_sub (fun _ h => List.mem_cons_of_mem _ (List.mem_append_right _ h)) (by decide +kernel))
set_option maxRecDepth 20000 in
theorem gL_reading_X5_reading : GoodIn wsL_reading (wsV RL 43 RX5 yX5_reading wsX5_reading) := goodIn_app (goodIn_of _ (by decide +kernel)) ggL_reading_X5_reading
theorem dL_reading_0 : decode cL_reading 0 = .ok (.aload_n 3, 1) := by decide +kernel
theorem dL_reading_1 : decode cL_reading 1 = .ok (.iconst 0, 1) := by decide +kernel
theorem dL_reading_2 : decode cL_reading 2 = .ok (.aload_n 0, 1) := by decide +kernel
theorem dL_reading_3 : decode cL_reading 3 = .ok (.iload_n 1, 1) := by decide +kernel
theorem dL_reading_4 : decode cL_reading 4 = .ok (.iload_n 2, 1) := by decide +kernel
theorem dL_reading_5 : decode cL_reading 5 = .ok (.invokevirtual 43, 3) := by decide +kernel
theorem dL_reading_8 : decode cL_reading 8 = .ok (.i2l, 1) := by decide +kernel
theorem dL_reading_9 : decode cL_reading 9 = .ok (.lastore, 1) := by decide +kernel
theorem dL_reading_10 : decode cL_reading 10 = .ok (.goto 7, 3) := by decide +kernel
theorem dL_reading_13 : decode cL_reading 13 = .ok (.astore 4, 2) := by decide +kernel
theorem dL_reading_15 : decode cL_reading 15 = .ok (.iconst 1, 1) := by decide +kernel
theorem dL_reading_16 : decode cL_reading 16 = .ok (.ireturn, 1) := by decide +kernel
theorem dL_reading_17 : decode cL_reading 17 = .ok (.iconst 0, 1) := by decide +kernel
theorem dL_reading_18 : decode cL_reading 18 = .ok (.ireturn, 1) := by decide +kernel
set_option maxRecDepth 20000 in
theorem ggL_errors_X5_errors : GoodIn wsL_errors wsX5_errors := goodIn_ca (goodIn_r _ [6, 7, 8, 9, 5, 10, 11, 12, 13, 14, 15, 16, 17, 18, 19, 20, 21, 22, 23, 24, 25, 26, 27, 28, 29, 30, 31, 32, 33, 34, 35, 36, 37, 38, 39, 40, 41, 42, 43, 44, 45, 46, 47, 48, 49, 50, 51, 52, 53, 54, 55, 56, 57, 58, 59, 60, 61, 62, 63, 64] (by decide +kernel) (by decide +kernel)) (goodIn_sub (fun _ h => List.mem_cons_of_mem _ (List.mem_append_right _ h)) (by decide +kernel))
set_option maxRecDepth 20000 in
theorem gL_errors_X5_errors : GoodIn wsL_errors (wsV RL 46 RX5 yX5_errors wsX5_errors) := goodIn_app (goodIn_of _ (by decide +kernel)) ggL_errors_X5_errors
theorem dL_errors_0 : decode cL_errors 0 = .ok (.aload_n 2, 1) := by decide +kernel
theorem dL_errors_1 : decode cL_errors 1 = .ok (.iconst 0, 1) := by decide +kernel
theorem dL_errors_2 : decode cL_errors 2 = .ok (.aload_n 0, 1) := by decide +kernel
theorem dL_errors_3 : decode cL_errors 3 = .ok (.iload_n 1, 1) := by decide +kernel
theorem dL_errors_4 : decode cL_errors 4 = .ok (.invokevirtual 46, 3) := by decide +kernel
theorem dL_errors_7 : decode cL_errors 7 = .ok (.i2l, 1) := by decide +kernel
theorem dL_errors_8 : decode cL_errors 8 = .ok (.lastore, 1) := by decide +kernel
theorem dL_errors_9 : decode cL_errors 9 = .ok (.goto 6, 3) := by decide +kernel
theorem dL_errors_12 : decode cL_errors 12 = .ok (.astore_n 3, 1) := by decide +kernel
theorem dL_errors_13 : decode cL_errors 13 = .ok (.iconst 1, 1) := by decide +kernel
theorem dL_errors_14 : decode cL_errors 14 = .ok (.ireturn, 1) := by decide +kernel
theorem dL_errors_15 : decode cL_errors 15 = .ok (.iconst 0, 1) := by decide +kernel
theorem dL_errors_16 : decode cL_errors 16 = .ok (.ireturn, 1) := by decide +kernel
set_option maxRecDepth 20000 in
theorem ggL_shared_X5_shared : GoodIn wsL_shared wsX5_shared := goodIn_ca (goodIn_r _ [6, 7, 8, 9, 5, 10, 11, 12, 13, 14, 15, 16, 17, 18, 19, 20, 21, 22, 23, 24, 25, 26, 27, 28, 29, 30, 31, 32, 33, 34, 35, 36, 37, 38, 39, 40, 41, 42, 43, 44, 45, 46, 47, 48, 49, 50, 51, 52, 53, 54, 55, 56, 57, 58, 59, 60] (by decide +kernel) (by decide +kernel)) (goodIn_sub (fun _ h => List.mem_cons_of_mem _ (List.mem_append_right _ h)) (by decide +kernel))
set_option maxRecDepth 20000 in
theorem gL_shared_X5_shared : GoodIn wsL_shared (wsV RL 49 RX5 yX5_shared wsX5_shared) := goodIn_app (goodIn_of _ (by decide +kernel)) ggL_shared_X5_shared
theorem dL_shared_0 : decode cL_shared 0 = .ok (.aload_n 3, 1) := by decide +kernel
theorem dL_shared_1 : decode cL_shared 1 = .ok (.iconst 0, 1) := by decide +kernel
theorem dL_shared_2 : decode cL_shared 2 = .ok (.aload_n 0, 1) := by decide +kernel
theorem dL_shared_3 : decode cL_shared 3 = .ok (.iload_n 1, 1) := by decide +kernel
theorem dL_shared_4 : decode cL_shared 4 = .ok (.iload_n 2, 1) := by decide +kernel
theorem dL_shared_5 : decode cL_shared 5 = .ok (.invokevirtual 49, 3) := by decide +kernel
theorem dL_shared_8 : decode cL_shared 8 = .ok (.i2l, 1) := by decide +kernel
theorem dL_shared_9 : decode cL_shared 9 = .ok (.lastore, 1) := by decide +kernel
theorem dL_shared_10 : decode cL_shared 10 = .ok (.goto 7, 3) := by decide +kernel
theorem dL_shared_13 : decode cL_shared 13 = .ok (.astore 4, 2) := by decide +kernel
theorem dL_shared_15 : decode cL_shared 15 = .ok (.iconst 1, 1) := by decide +kernel
theorem dL_shared_16 : decode cL_shared 16 = .ok (.ireturn, 1) := by decide +kernel
theorem dL_shared_17 : decode cL_shared 17 = .ok (.iconst 0, 1) := by decide +kernel
theorem dL_shared_18 : decode cL_shared 18 = .ok (.ireturn, 1) := by decide +kernel
set_option maxRecDepth 20000 in
theorem ggL_houseOf_X5_houseOf : GoodIn wsL_houseOf wsX5_houseOf := goodIn_ca (goodIn_r _ [6, 7, 8, 9, 10, 11, 5, 12, 13, 14, 15, 16, 17, 18, 19, 20, 21, 22, 23, 24, 25, 26, 27, 28, 29, 30, 31, 32, 33, 34, 35, 36, 37, 38, 39, 40, 41, 42, 43, 44, 45, 46, 47, 48, 49, 50, 51, 52, 53, 54, 55, 56, 57, 58, 59, 60] (by decide +kernel) (by decide +kernel)) (goodIn_sub (fun _ h => List.mem_cons_of_mem _ (List.mem_append_right _ h)) (by decide +kernel))
set_option maxRecDepth 20000 in
theorem gL_houseOf_X5_houseOf : GoodIn wsL_houseOf (wsV RL 52 RX5 yX5_houseOf wsX5_houseOf) := goodIn_app (goodIn_of _ (by decide +kernel)) ggL_houseOf_X5_houseOf
theorem dL_houseOf_0 : decode cL_houseOf 0 = .ok (.aload_n 2, 1) := by decide +kernel
theorem dL_houseOf_1 : decode cL_houseOf 1 = .ok (.iconst 0, 1) := by decide +kernel
theorem dL_houseOf_2 : decode cL_houseOf 2 = .ok (.aload_n 0, 1) := by decide +kernel
theorem dL_houseOf_3 : decode cL_houseOf 3 = .ok (.iload_n 1, 1) := by decide +kernel
theorem dL_houseOf_4 : decode cL_houseOf 4 = .ok (.invokevirtual 52, 3) := by decide +kernel
theorem dL_houseOf_7 : decode cL_houseOf 7 = .ok (.i2l, 1) := by decide +kernel
theorem dL_houseOf_8 : decode cL_houseOf 8 = .ok (.lastore, 1) := by decide +kernel
theorem dL_houseOf_9 : decode cL_houseOf 9 = .ok (.goto 6, 3) := by decide +kernel
theorem dL_houseOf_12 : decode cL_houseOf 12 = .ok (.astore_n 3, 1) := by decide +kernel
theorem dL_houseOf_13 : decode cL_houseOf 13 = .ok (.iconst 1, 1) := by decide +kernel
theorem dL_houseOf_14 : decode cL_houseOf 14 = .ok (.ireturn, 1) := by decide +kernel
theorem dL_houseOf_15 : decode cL_houseOf 15 = .ok (.iconst 0, 1) := by decide +kernel
theorem dL_houseOf_16 : decode cL_houseOf 16 = .ok (.ireturn, 1) := by decide +kernel
set_option maxRecDepth 20000 in
theorem ggL_ownerOf_X5_ownerOf : GoodIn wsL_ownerOf wsX5_ownerOf := goodIn_ca (goodIn_r _ [6, 7, 8, 9, 10, 11, 5, 12, 13, 14, 15, 16, 17, 18, 19, 20, 21, 22, 23, 24, 25, 26, 27, 28, 29, 30, 31, 32, 33, 34, 35, 36, 37, 38, 39, 40, 41, 42, 43, 44, 45, 46, 47, 48, 49, 50, 51, 52, 53, 54, 55, 56, 57, 58, 59, 60] (by decide +kernel) (by decide +kernel)) (goodIn_sub (fun _ h => List.mem_cons_of_mem _ (List.mem_append_right _ h)) (by decide +kernel))
set_option maxRecDepth 20000 in
theorem gL_ownerOf_X5_ownerOf : GoodIn wsL_ownerOf (wsV RL 55 RX5 yX5_ownerOf wsX5_ownerOf) := goodIn_app (goodIn_of _ (by decide +kernel)) ggL_ownerOf_X5_ownerOf
theorem dL_ownerOf_0 : decode cL_ownerOf 0 = .ok (.aload_n 2, 1) := by decide +kernel
theorem dL_ownerOf_1 : decode cL_ownerOf 1 = .ok (.iconst 0, 1) := by decide +kernel
theorem dL_ownerOf_2 : decode cL_ownerOf 2 = .ok (.aload_n 0, 1) := by decide +kernel
theorem dL_ownerOf_3 : decode cL_ownerOf 3 = .ok (.iload_n 1, 1) := by decide +kernel
theorem dL_ownerOf_4 : decode cL_ownerOf 4 = .ok (.invokevirtual 55, 3) := by decide +kernel
theorem dL_ownerOf_7 : decode cL_ownerOf 7 = .ok (.i2l, 1) := by decide +kernel
theorem dL_ownerOf_8 : decode cL_ownerOf 8 = .ok (.lastore, 1) := by decide +kernel
theorem dL_ownerOf_9 : decode cL_ownerOf 9 = .ok (.goto 6, 3) := by decide +kernel
theorem dL_ownerOf_12 : decode cL_ownerOf 12 = .ok (.astore_n 3, 1) := by decide +kernel
theorem dL_ownerOf_13 : decode cL_ownerOf 13 = .ok (.iconst 1, 1) := by decide +kernel
theorem dL_ownerOf_14 : decode cL_ownerOf 14 = .ok (.ireturn, 1) := by decide +kernel
theorem dL_ownerOf_15 : decode cL_ownerOf 15 = .ok (.iconst 0, 1) := by decide +kernel
theorem dL_ownerOf_16 : decode cL_ownerOf 16 = .ok (.ireturn, 1) := by decide +kernel
set_option maxRecDepth 20000 in
theorem ggL_toldModel_X5_toldModel : GoodIn wsL_toldModel wsX5_toldModel := goodIn_ca (goodIn_r _ [6, 7, 8, 9, 5, 10, 11, 12, 13, 14, 15, 16, 17, 18, 19, 20, 21, 22, 23, 24, 25, 26, 27, 28, 29, 30, 31, 32, 33, 34, 35, 36, 37, 38, 39, 40, 41, 42, 43, 44, 45, 46, 47, 48, 49, 50, 51, 52, 53, 54, 55, 56, 57, 58, 59, 60, 61, 62, 63, 64, 65] (by decide +kernel) (by decide +kernel)) (goodIn_sub (fun _ h => List.mem_cons_of_mem _ (List.mem_append_right _ h)) (by decide +kernel))
set_option maxRecDepth 20000 in
theorem gL_toldModel_X5_toldModel : GoodIn wsL_toldModel (wsV RL 58 RX5 yX5_toldModel wsX5_toldModel) := goodIn_app (goodIn_of _ (by decide +kernel)) ggL_toldModel_X5_toldModel
theorem dL_toldModel_0 : decode cL_toldModel 0 = .ok (.aload_n 2, 1) := by decide +kernel
theorem dL_toldModel_1 : decode cL_toldModel 1 = .ok (.iconst 0, 1) := by decide +kernel
theorem dL_toldModel_2 : decode cL_toldModel 2 = .ok (.aload_n 0, 1) := by decide +kernel
theorem dL_toldModel_3 : decode cL_toldModel 3 = .ok (.iload_n 1, 1) := by decide +kernel
theorem dL_toldModel_4 : decode cL_toldModel 4 = .ok (.invokevirtual 58, 3) := by decide +kernel
theorem dL_toldModel_7 : decode cL_toldModel 7 = .ok (.i2l, 1) := by decide +kernel
theorem dL_toldModel_8 : decode cL_toldModel 8 = .ok (.lastore, 1) := by decide +kernel
theorem dL_toldModel_9 : decode cL_toldModel 9 = .ok (.goto 6, 3) := by decide +kernel
theorem dL_toldModel_12 : decode cL_toldModel 12 = .ok (.astore_n 3, 1) := by decide +kernel
theorem dL_toldModel_13 : decode cL_toldModel 13 = .ok (.iconst 1, 1) := by decide +kernel
theorem dL_toldModel_14 : decode cL_toldModel 14 = .ok (.ireturn, 1) := by decide +kernel
theorem dL_toldModel_15 : decode cL_toldModel 15 = .ok (.iconst 0, 1) := by decide +kernel
theorem dL_toldModel_16 : decode cL_toldModel 16 = .ok (.ireturn, 1) := by decide +kernel
set_option maxRecDepth 20000 in
theorem ggL_slips_X5_slips : GoodIn wsL_slips wsX5_slips := goodIn_ca (goodIn_r _ [6, 7, 8, 9, 5, 10, 11, 12, 13, 14, 15, 16, 17, 18, 19] (by decide +kernel) (by decide +kernel)) (goodIn_sub (fun _ h => List.mem_cons_of_mem _ (List.mem_append_right _ h)) (by decide +kernel))
set_option maxRecDepth 20000 in
theorem gL_slips_X5_slips : GoodIn wsL_slips (wsV RL 61 RX5 yX5_slips wsX5_slips) := goodIn_app (goodIn_of _ (by decide +kernel)) ggL_slips_X5_slips
theorem dL_slips_0 : decode cL_slips 0 = .ok (.aload_n 2, 1) := by decide +kernel
theorem dL_slips_1 : decode cL_slips 1 = .ok (.iconst 0, 1) := by decide +kernel
theorem dL_slips_2 : decode cL_slips 2 = .ok (.aload_n 0, 1) := by decide +kernel
theorem dL_slips_3 : decode cL_slips 3 = .ok (.iload_n 1, 1) := by decide +kernel
theorem dL_slips_4 : decode cL_slips 4 = .ok (.invokevirtual 61, 3) := by decide +kernel
theorem dL_slips_7 : decode cL_slips 7 = .ok (.i2l, 1) := by decide +kernel
theorem dL_slips_8 : decode cL_slips 8 = .ok (.lastore, 1) := by decide +kernel
theorem dL_slips_9 : decode cL_slips 9 = .ok (.goto 6, 3) := by decide +kernel
theorem dL_slips_12 : decode cL_slips 12 = .ok (.astore_n 3, 1) := by decide +kernel
theorem dL_slips_13 : decode cL_slips 13 = .ok (.iconst 1, 1) := by decide +kernel
theorem dL_slips_14 : decode cL_slips 14 = .ok (.ireturn, 1) := by decide +kernel
theorem dL_slips_15 : decode cL_slips 15 = .ok (.iconst 0, 1) := by decide +kernel
theorem dL_slips_16 : decode cL_slips 16 = .ok (.ireturn, 1) := by decide +kernel
set_option maxRecDepth 20000 in
theorem ggL_family_X5_family : GoodIn wsL_family wsX5_family := goodIn_ca (goodIn_r _ [6, 7, 8, 9, 10, 5, 11, 12, 13, 14, 15, 16, 17, 18, 19, 20, 21, 22, 23, 24, 25, 26, 27, 28, 29, 30, 31, 32, 33, 34, 35, 36, 37, 38, 39, 40, 41, 42, 43, 44, 45, 46, 47, 48, 49, 50, 51, 52, 53, 54, 55] (by decide +kernel) (by decide +kernel)) (goodIn_sub (fun _ h => List.mem_cons_of_mem _ (List.mem_append_right _ h)) (by decide +kernel))
set_option maxRecDepth 20000 in
theorem gL_family_X5_family : GoodIn wsL_family (wsV RL 64 RX5 yX5_family wsX5_family) := goodIn_app (goodIn_of _ (by decide +kernel)) ggL_family_X5_family
theorem dL_family_0 : decode cL_family 0 = .ok (.aload_n 2, 1) := by decide +kernel
theorem dL_family_1 : decode cL_family 1 = .ok (.iconst 0, 1) := by decide +kernel
theorem dL_family_2 : decode cL_family 2 = .ok (.aload_n 0, 1) := by decide +kernel
theorem dL_family_3 : decode cL_family 3 = .ok (.iload_n 1, 1) := by decide +kernel
theorem dL_family_4 : decode cL_family 4 = .ok (.invokevirtual 64, 3) := by decide +kernel
theorem dL_family_7 : decode cL_family 7 = .ok (.i2l, 1) := by decide +kernel
theorem dL_family_8 : decode cL_family 8 = .ok (.lastore, 1) := by decide +kernel
theorem dL_family_9 : decode cL_family 9 = .ok (.goto 6, 3) := by decide +kernel
theorem dL_family_12 : decode cL_family 12 = .ok (.astore_n 3, 1) := by decide +kernel
theorem dL_family_13 : decode cL_family 13 = .ok (.iconst 1, 1) := by decide +kernel
theorem dL_family_14 : decode cL_family 14 = .ok (.ireturn, 1) := by decide +kernel
theorem dL_family_15 : decode cL_family 15 = .ok (.iconst 0, 1) := by decide +kernel
theorem dL_family_16 : decode cL_family 16 = .ok (.ireturn, 1) := by decide +kernel
set_option maxRecDepth 20000 in
theorem ggL_familyByErrors_X5_familyByErrors : GoodIn wsL_familyByErrors wsX5_familyByErrors := goodIn_ca (goodIn_r _ [6, 7, 8, 9, 10, 11, 12, 5, 13, 14, 15, 16, 17, 18, 19, 20, 21, 22, 23, 24, 25, 26, 27, 28, 29, 30, 31, 32, 33, 34, 35, 36, 37, 38, 39, 40, 41, 42, 43, 44, 45, 46, 47, 48, 49, 50, 51, 52, 53, 54, 55, 56, 57, 58, 59, 60, 61, 62, 63, 64, 65, 66, 67, 68, 69, 70, 71, 72, 73, 74, 75, 76, 77, 78, 79, 80, 81, 82, 83] (by decide +kernel) (by decide +kernel)) (goodIn_sub (fun _ h => List.mem_cons_of_mem _ (List.mem_append_right _ h)) (by decide +kernel))
set_option maxRecDepth 20000 in
theorem gL_familyByErrors_X5_familyByErrors : GoodIn wsL_familyByErrors (wsV RL 67 RX5 yX5_familyByErrors wsX5_familyByErrors) := goodIn_app (goodIn_of _ (by decide +kernel)) ggL_familyByErrors_X5_familyByErrors
theorem dL_familyByErrors_0 : decode cL_familyByErrors 0 = .ok (.aload_n 2, 1) := by decide +kernel
theorem dL_familyByErrors_1 : decode cL_familyByErrors 1 = .ok (.iconst 0, 1) := by decide +kernel
theorem dL_familyByErrors_2 : decode cL_familyByErrors 2 = .ok (.aload_n 0, 1) := by decide +kernel
theorem dL_familyByErrors_3 : decode cL_familyByErrors 3 = .ok (.iload_n 1, 1) := by decide +kernel
theorem dL_familyByErrors_4 : decode cL_familyByErrors 4 = .ok (.invokevirtual 67, 3) := by decide +kernel
theorem dL_familyByErrors_7 : decode cL_familyByErrors 7 = .ok (.i2l, 1) := by decide +kernel
theorem dL_familyByErrors_8 : decode cL_familyByErrors 8 = .ok (.lastore, 1) := by decide +kernel
theorem dL_familyByErrors_9 : decode cL_familyByErrors 9 = .ok (.goto 6, 3) := by decide +kernel
theorem dL_familyByErrors_12 : decode cL_familyByErrors 12 = .ok (.astore_n 3, 1) := by decide +kernel
theorem dL_familyByErrors_13 : decode cL_familyByErrors 13 = .ok (.iconst 1, 1) := by decide +kernel
theorem dL_familyByErrors_14 : decode cL_familyByErrors 14 = .ok (.ireturn, 1) := by decide +kernel
theorem dL_familyByErrors_15 : decode cL_familyByErrors 15 = .ok (.iconst 0, 1) := by decide +kernel
theorem dL_familyByErrors_16 : decode cL_familyByErrors 16 = .ok (.ireturn, 1) := by decide +kernel
set_option maxRecDepth 20000 in
theorem ggL_guess_X5_guess : GoodIn wsL_guess wsX5_guess := goodIn_ca (goodIn_r _ [6, 7, 8, 9, 5, 10, 11, 12, 13, 14, 15, 16, 17, 18, 19, 20, 21, 22, 23, 24, 25, 26, 27, 28, 29, 30, 31, 32, 33, 34, 35, 36, 37, 38, 39, 40, 41, 42, 43, 44, 45, 46, 47, 48, 49, 50, 51, 52, 53, 54, 55, 56, 57, 58, 59, 60, 61, 62, 63, 64, 65, 66, 67, 68, 69, 70, 71, 72, 73, 74, 75, 76, 77, 78, 79, 80, 81, 82] (by decide +kernel) (by decide +kernel)) (goodIn_sub (fun _ h => List.mem_cons_of_mem _ (List.mem_append_right _ h)) (by decide +kernel))
set_option maxRecDepth 20000 in
theorem gL_guess_X5_guess : GoodIn wsL_guess (wsV RL 70 RX5 yX5_guess wsX5_guess) := goodIn_app (goodIn_of _ (by decide +kernel)) ggL_guess_X5_guess
theorem dL_guess_0 : decode cL_guess 0 = .ok (.aload_n 2, 1) := by decide +kernel
theorem dL_guess_1 : decode cL_guess 1 = .ok (.iconst 0, 1) := by decide +kernel
theorem dL_guess_2 : decode cL_guess 2 = .ok (.aload_n 0, 1) := by decide +kernel
theorem dL_guess_3 : decode cL_guess 3 = .ok (.iload_n 1, 1) := by decide +kernel
