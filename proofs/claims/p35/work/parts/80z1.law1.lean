theorem dL_from_0 : decode cL_from 0 = .ok (.aload_n 0, 1) := by decide +kernel
theorem dL_from_1 : decode cL_from 1 = .ok (.arraylength, 1) := by decide +kernel
theorem dL_from_2 : decode cL_from 2 = .ok (.ifCond .ne 15, 3) := by decide +kernel
theorem dL_from_5 : decode cL_from 5 = .ok (.sipush 277, 3) := by decide +kernel
theorem dL_from_8 : decode cL_from 8 = .ok (.iload_n 1, 1) := by decide +kernel
theorem dL_from_9 : decode cL_from 9 = .ok (.imul, 1) := by decide +kernel
theorem dL_from_10 : decode cL_from 10 = .ok (.sipush 251, 3) := by decide +kernel
theorem dL_from_13 : decode cL_from 13 = .ok (.iadd, 1) := by decide +kernel
theorem dL_from_14 : decode cL_from 14 = .ok (.goto 14, 3) := by decide +kernel
theorem dL_from_17 : decode cL_from 17 = .ok (.aload_n 0, 1) := by decide +kernel
theorem dL_from_18 : decode cL_from 18 = .ok (.iload_n 1, 1) := by decide +kernel
theorem dL_from_19 : decode cL_from 19 = .ok (.aload_n 0, 1) := by decide +kernel
theorem dL_from_20 : decode cL_from 20 = .ok (.arraylength, 1) := by decide +kernel
theorem dL_from_21 : decode cL_from 21 = .ok (.irem, 1) := by decide +kernel
theorem dL_from_22 : decode cL_from 22 = .ok (.iaload, 1) := by decide +kernel
theorem dL_from_23 : decode cL_from 23 = .ok (.ldc 7, 2) := by decide +kernel
theorem dL_from_25 : decode cL_from 25 = .ok (.iload_n 1, 1) := by decide +kernel
theorem dL_from_26 : decode cL_from 26 = .ok (.imul, 1) := by decide +kernel
theorem dL_from_27 : decode cL_from 27 = .ok (.ixor, 1) := by decide +kernel
theorem dL_from_28 : decode cL_from 28 = .ok (.istore_n 3, 1) := by decide +kernel
theorem dL_from_29 : decode cL_from 29 = .ok (.iload_n 3, 1) := by decide +kernel
theorem dL_from_30 : decode cL_from 30 = .ok (.ldc 8, 2) := by decide +kernel
theorem dL_from_32 : decode cL_from 32 = .ok (.iand, 1) := by decide +kernel
theorem dL_from_33 : decode cL_from 33 = .ok (.iload_n 2, 1) := by decide +kernel
theorem dL_from_34 : decode cL_from 34 = .ok (.irem, 1) := by decide +kernel
theorem dL_from_35 : decode cL_from 35 = .ok (.ireturn, 1) := by decide +kernel
theorem dL_place_0 : decode cL_place 0 = .ok (.iload_n 0, 1) := by decide +kernel
theorem dL_place_1 : decode cL_place 1 = .ok (.bipush 11, 2) := by decide +kernel
theorem dL_place_3 : decode cL_place 3 = .ok (.if_icmp .ne 8, 3) := by decide +kernel
theorem dL_place_6 : decode cL_place 6 = .ok (.bipush 23, 2) := by decide +kernel
theorem dL_place_8 : decode cL_place 8 = .ok (.goto 6, 3) := by decide +kernel
theorem dL_place_11 : decode cL_place 11 = .ok (.iconst 2, 1) := by decide +kernel
theorem dL_place_12 : decode cL_place 12 = .ok (.iload_n 0, 1) := by decide +kernel
theorem dL_place_13 : decode cL_place 13 = .ok (.imul, 1) := by decide +kernel
theorem dL_place_14 : decode cL_place 14 = .ok (.ireturn, 1) := by decide +kernel
theorem dL_get_0 : decode cL_get 0 = .ok (.lload_n 0, 1) := by decide +kernel
theorem dL_get_1 : decode cL_get 1 = .ok (.iconst 4, 1) := by decide +kernel
theorem dL_get_2 : decode cL_get 2 = .ok (.iload_n 2, 1) := by decide +kernel
theorem dL_get_3 : decode cL_get 3 = .ok (.imul, 1) := by decide +kernel
theorem dL_get_4 : decode cL_get 4 = .ok (.lshr, 1) := by decide +kernel
theorem dL_get_5 : decode cL_get 5 = .ok (.ldc2_w 9, 3) := by decide +kernel
theorem dL_get_8 : decode cL_get 8 = .ok (.land, 1) := by decide +kernel
theorem dL_get_9 : decode cL_get 9 = .ok (.l2i, 1) := by decide +kernel
theorem dL_get_10 : decode cL_get 10 = .ok (.ireturn, 1) := by decide +kernel
theorem dL_put_0 : decode cL_put 0 = .ok (.lload_n 0, 1) := by decide +kernel
theorem dL_put_1 : decode cL_put 1 = .ok (.ldc2_w 9, 3) := by decide +kernel
theorem dL_put_4 : decode cL_put 4 = .ok (.iconst 4, 1) := by decide +kernel
theorem dL_put_5 : decode cL_put 5 = .ok (.iload_n 2, 1) := by decide +kernel
theorem dL_put_6 : decode cL_put 6 = .ok (.imul, 1) := by decide +kernel
theorem dL_put_7 : decode cL_put 7 = .ok (.lshl, 1) := by decide +kernel
theorem dL_put_8 : decode cL_put 8 = .ok (.ldc2_w 11, 3) := by decide +kernel
theorem dL_put_11 : decode cL_put 11 = .ok (.lxor, 1) := by decide +kernel
theorem dL_put_12 : decode cL_put 12 = .ok (.land, 1) := by decide +kernel
theorem dL_put_13 : decode cL_put 13 = .ok (.iload_n 3, 1) := by decide +kernel
theorem dL_put_14 : decode cL_put 14 = .ok (.i2l, 1) := by decide +kernel
theorem dL_put_15 : decode cL_put 15 = .ok (.iconst 4, 1) := by decide +kernel
theorem dL_put_16 : decode cL_put 16 = .ok (.iload_n 2, 1) := by decide +kernel
theorem dL_put_17 : decode cL_put 17 = .ok (.imul, 1) := by decide +kernel
theorem dL_put_18 : decode cL_put 18 = .ok (.lshl, 1) := by decide +kernel
theorem dL_put_19 : decode cL_put 19 = .ok (.lor, 1) := by decide +kernel
theorem dL_put_20 : decode cL_put 20 = .ok (.lreturn, 1) := by decide +kernel
set_option maxRecDepth 20000 in
theorem ggL_shared_L_get : GoodIn wsL_shared wsL_get := goodIn_r _ [4, 5] (by decide +kernel) (by decide +kernel)
set_option maxRecDepth 20000 in
theorem gL_shared_L_get : GoodIn wsL_shared (va_wsS RL 13 yL_get wsL_get) := goodIn_app (goodIn_of _ (by decide +kernel)) ggL_shared_L_get
theorem dL_shared_0 : decode cL_shared 0 = .ok (.iconst 0, 1) := by decide +kernel
theorem dL_shared_1 : decode cL_shared 1 = .ok (.istore 4, 2) := by decide +kernel
theorem dL_shared_3 : decode cL_shared 3 = .ok (.iconst 0, 1) := by decide +kernel
theorem dL_shared_4 : decode cL_shared 4 = .ok (.istore 5, 2) := by decide +kernel
theorem dL_shared_6 : decode cL_shared 6 = .ok (.iload 5, 2) := by decide +kernel
theorem dL_shared_8 : decode cL_shared 8 = .ok (.bipush 12, 2) := by decide +kernel
theorem dL_shared_10 : decode cL_shared 10 = .ok (.if_icmp .ge 43, 3) := by decide +kernel
theorem dL_shared_13 : decode cL_shared 13 = .ok (.iload 4, 2) := by decide +kernel
theorem dL_shared_15 : decode cL_shared 15 = .ok (.lload_n 0, 1) := by decide +kernel
theorem dL_shared_16 : decode cL_shared 16 = .ok (.iload 5, 2) := by decide +kernel
theorem dL_shared_18 : decode cL_shared 18 = .ok (.invokestatic 13, 3) := by decide +kernel
theorem dL_shared_21 : decode cL_shared 21 = .ok (.ifCond .le 22, 3) := by decide +kernel
theorem dL_shared_24 : decode cL_shared 24 = .ok (.lload_n 0, 1) := by decide +kernel
theorem dL_shared_25 : decode cL_shared 25 = .ok (.iload 5, 2) := by decide +kernel
theorem dL_shared_27 : decode cL_shared 27 = .ok (.invokestatic 13, 3) := by decide +kernel
theorem dL_shared_30 : decode cL_shared 30 = .ok (.lload_n 2, 1) := by decide +kernel
theorem dL_shared_31 : decode cL_shared 31 = .ok (.iload 5, 2) := by decide +kernel
theorem dL_shared_33 : decode cL_shared 33 = .ok (.invokestatic 13, 3) := by decide +kernel
theorem dL_shared_36 : decode cL_shared 36 = .ok (.if_icmp .ne 7, 3) := by decide +kernel
theorem dL_shared_39 : decode cL_shared 39 = .ok (.iconst 1, 1) := by decide +kernel
theorem dL_shared_40 : decode cL_shared 40 = .ok (.goto 4, 3) := by decide +kernel
theorem dL_shared_43 : decode cL_shared 43 = .ok (.iconst 0, 1) := by decide +kernel
theorem dL_shared_44 : decode cL_shared 44 = .ok (.iadd, 1) := by decide +kernel
theorem dL_shared_45 : decode cL_shared 45 = .ok (.istore 4, 2) := by decide +kernel
theorem dL_shared_47 : decode cL_shared 47 = .ok (.iinc 5 1, 3) := by decide +kernel
theorem dL_shared_50 : decode cL_shared 50 = .ok (.goto (-44), 3) := by decide +kernel
theorem dL_shared_53 : decode cL_shared 53 = .ok (.iload 4, 2) := by decide +kernel
theorem dL_shared_55 : decode cL_shared 55 = .ok (.ireturn, 1) := by decide +kernel
set_option maxRecDepth 20000 in
theorem ggL_errors_L_get : GoodIn wsL_errors wsL_get := goodIn_r _ [4, 5] (by decide +kernel) (by decide +kernel)
set_option maxRecDepth 20000 in
theorem gL_errors_L_get : GoodIn wsL_errors (va_wsS RL 13 yL_get wsL_get) := goodIn_app (goodIn_of _ (by decide +kernel)) ggL_errors_L_get
theorem dL_errors_0 : decode cL_errors 0 = .ok (.iconst 0, 1) := by decide +kernel
theorem dL_errors_1 : decode cL_errors 1 = .ok (.istore_n 2, 1) := by decide +kernel
theorem dL_errors_2 : decode cL_errors 2 = .ok (.iconst 0, 1) := by decide +kernel
theorem dL_errors_3 : decode cL_errors 3 = .ok (.istore_n 3, 1) := by decide +kernel
theorem dL_errors_4 : decode cL_errors 4 = .ok (.iload_n 3, 1) := by decide +kernel
theorem dL_errors_5 : decode cL_errors 5 = .ok (.bipush 12, 2) := by decide +kernel
theorem dL_errors_7 : decode cL_errors 7 = .ok (.if_icmp .ge 25, 3) := by decide +kernel
theorem dL_errors_10 : decode cL_errors 10 = .ok (.iload_n 2, 1) := by decide +kernel
theorem dL_errors_11 : decode cL_errors 11 = .ok (.lload_n 0, 1) := by decide +kernel
theorem dL_errors_12 : decode cL_errors 12 = .ok (.iload_n 3, 1) := by decide +kernel
theorem dL_errors_13 : decode cL_errors 13 = .ok (.invokestatic 13, 3) := by decide +kernel
theorem dL_errors_16 : decode cL_errors 16 = .ok (.ifCond .le 7, 3) := by decide +kernel
theorem dL_errors_19 : decode cL_errors 19 = .ok (.iconst 1, 1) := by decide +kernel
theorem dL_errors_20 : decode cL_errors 20 = .ok (.goto 4, 3) := by decide +kernel
theorem dL_errors_23 : decode cL_errors 23 = .ok (.iconst 0, 1) := by decide +kernel
theorem dL_errors_24 : decode cL_errors 24 = .ok (.iadd, 1) := by decide +kernel
theorem dL_errors_25 : decode cL_errors 25 = .ok (.istore_n 2, 1) := by decide +kernel
theorem dL_errors_26 : decode cL_errors 26 = .ok (.iinc 3 1, 3) := by decide +kernel
theorem dL_errors_29 : decode cL_errors 29 = .ok (.goto (-25), 3) := by decide +kernel
theorem dL_errors_32 : decode cL_errors 32 = .ok (.iload_n 2, 1) := by decide +kernel
theorem dL_errors_33 : decode cL_errors 33 = .ok (.ireturn, 1) := by decide +kernel
set_option maxRecDepth 20000 in
theorem ggL_family_L_shared : GoodIn wsL_family wsL_shared := goodIn_r _ [4, 5, 6, 3, 7, 8] (by decide +kernel) (by decide +kernel)
set_option maxRecDepth 20000 in
theorem gL_family_L_shared : GoodIn wsL_family (va_wsS RL 19 yL_shared wsL_shared) := goodIn_app (goodIn_of _ (by decide +kernel)) ggL_family_L_shared
theorem dL_family_0 : decode cL_family 0 = .ok (.iconst 1, 1) := by decide +kernel
theorem dL_family_1 : decode cL_family 1 = .ok (.iload_n 3, 1) := by decide +kernel
theorem dL_family_2 : decode cL_family 2 = .ok (.ishl, 1) := by decide +kernel
theorem dL_family_3 : decode cL_family 3 = .ok (.istore 4, 2) := by decide +kernel
theorem dL_family_5 : decode cL_family 5 = .ok (.iconst 0, 1) := by decide +kernel
theorem dL_family_6 : decode cL_family 6 = .ok (.istore 5, 2) := by decide +kernel
theorem dL_family_8 : decode cL_family 8 = .ok (.iload 4, 2) := by decide +kernel
theorem dL_family_10 : decode cL_family 10 = .ok (.iload 5, 2) := by decide +kernel
theorem dL_family_12 : decode cL_family 12 = .ok (.if_icmp .eq 140, 3) := by decide +kernel
theorem dL_family_15 : decode cL_family 15 = .ok (.iload 4, 2) := by decide +kernel
theorem dL_family_17 : decode cL_family 17 = .ok (.istore 5, 2) := by decide +kernel
theorem dL_family_19 : decode cL_family 19 = .ok (.iconst 0, 1) := by decide +kernel
theorem dL_family_20 : decode cL_family 20 = .ok (.istore 6, 2) := by decide +kernel
theorem dL_family_22 : decode cL_family 22 = .ok (.iload 6, 2) := by decide +kernel
theorem dL_family_24 : decode cL_family 24 = .ok (.aload_n 2, 1) := by decide +kernel
theorem dL_family_25 : decode cL_family 25 = .ok (.iconst 0, 1) := by decide +kernel
theorem dL_family_26 : decode cL_family 26 = .ok (.iaload, 1) := by decide +kernel
theorem dL_family_27 : decode cL_family 27 = .ok (.if_icmp .ge 122, 3) := by decide +kernel
theorem dL_family_30 : decode cL_family 30 = .ok (.iconst 0, 1) := by decide +kernel
theorem dL_family_31 : decode cL_family 31 = .ok (.istore 7, 2) := by decide +kernel
theorem dL_family_33 : decode cL_family 33 = .ok (.iload 7, 2) := by decide +kernel
theorem dL_family_35 : decode cL_family 35 = .ok (.aload_n 2, 1) := by decide +kernel
theorem dL_family_36 : decode cL_family 36 = .ok (.iconst 0, 1) := by decide +kernel
theorem dL_family_37 : decode cL_family 37 = .ok (.iaload, 1) := by decide +kernel
theorem dL_family_38 : decode cL_family 38 = .ok (.if_icmp .ge 105, 3) := by decide +kernel
theorem dL_family_41 : decode cL_family 41 = .ok (.iload 4, 2) := by decide +kernel
theorem dL_family_43 : decode cL_family 43 = .ok (.iload 6, 2) := by decide +kernel
theorem dL_family_45 : decode cL_family 45 = .ok (.ishr, 1) := by decide +kernel
theorem dL_family_46 : decode cL_family 46 = .ok (.iconst 1, 1) := by decide +kernel
theorem dL_family_47 : decode cL_family 47 = .ok (.iand, 1) := by decide +kernel
theorem dL_family_48 : decode cL_family 48 = .ok (.iconst 1, 1) := by decide +kernel
theorem dL_family_49 : decode cL_family 49 = .ok (.if_icmp .ne 94, 3) := by decide +kernel
theorem dL_family_52 : decode cL_family 52 = .ok (.aload_n 0, 1) := by decide +kernel
theorem dL_family_53 : decode cL_family 53 = .ok (.iload 6, 2) := by decide +kernel
theorem dL_family_55 : decode cL_family 55 = .ok (.laload, 1) := by decide +kernel
theorem dL_family_56 : decode cL_family 56 = .ok (.aload_n 0, 1) := by decide +kernel
theorem dL_family_57 : decode cL_family 57 = .ok (.iload 7, 2) := by decide +kernel
theorem dL_family_59 : decode cL_family 59 = .ok (.laload, 1) := by decide +kernel
theorem dL_family_60 : decode cL_family 60 = .ok (.invokestatic 19, 3) := by decide +kernel
theorem dL_family_63 : decode cL_family 63 = .ok (.ifCond .gt 49, 3) := by decide +kernel
theorem dL_family_66 : decode cL_family 66 = .ok (.aload_n 1, 1) := by decide +kernel
theorem dL_family_67 : decode cL_family 67 = .ok (.iconst 4, 1) := by decide +kernel
theorem dL_family_68 : decode cL_family 68 = .ok (.iload 6, 2) := by decide +kernel
theorem dL_family_70 : decode cL_family 70 = .ok (.imul, 1) := by decide +kernel
theorem dL_family_71 : decode cL_family 71 = .ok (.iconst 1, 1) := by decide +kernel
theorem dL_family_72 : decode cL_family 72 = .ok (.iadd, 1) := by decide +kernel
theorem dL_family_73 : decode cL_family 73 = .ok (.iaload, 1) := by decide +kernel
theorem dL_family_74 : decode cL_family 74 = .ok (.iconst 1, 1) := by decide +kernel
theorem dL_family_75 : decode cL_family 75 = .ok (.if_icmp .ne 14, 3) := by decide +kernel
theorem dL_family_78 : decode cL_family 78 = .ok (.aload_n 1, 1) := by decide +kernel
theorem dL_family_79 : decode cL_family 79 = .ok (.iconst 4, 1) := by decide +kernel
theorem dL_family_80 : decode cL_family 80 = .ok (.iload 6, 2) := by decide +kernel
theorem dL_family_82 : decode cL_family 82 = .ok (.imul, 1) := by decide +kernel
theorem dL_family_83 : decode cL_family 83 = .ok (.iaload, 1) := by decide +kernel
theorem dL_family_84 : decode cL_family 84 = .ok (.iload 7, 2) := by decide +kernel
theorem dL_family_86 : decode cL_family 86 = .ok (.if_icmp .eq 26, 3) := by decide +kernel
theorem dL_family_89 : decode cL_family 89 = .ok (.aload_n 1, 1) := by decide +kernel
theorem dL_family_90 : decode cL_family 90 = .ok (.iconst 4, 1) := by decide +kernel
theorem dL_family_91 : decode cL_family 91 = .ok (.iload 7, 2) := by decide +kernel
theorem dL_family_93 : decode cL_family 93 = .ok (.imul, 1) := by decide +kernel
theorem dL_family_94 : decode cL_family 94 = .ok (.iconst 1, 1) := by decide +kernel
theorem dL_family_95 : decode cL_family 95 = .ok (.iadd, 1) := by decide +kernel
theorem dL_family_96 : decode cL_family 96 = .ok (.iaload, 1) := by decide +kernel
theorem dL_family_97 : decode cL_family 97 = .ok (.iconst 1, 1) := by decide +kernel
theorem dL_family_98 : decode cL_family 98 = .ok (.if_icmp .ne 18, 3) := by decide +kernel
theorem dL_family_101 : decode cL_family 101 = .ok (.aload_n 1, 1) := by decide +kernel
theorem dL_family_102 : decode cL_family 102 = .ok (.iconst 4, 1) := by decide +kernel
theorem dL_family_103 : decode cL_family 103 = .ok (.iload 7, 2) := by decide +kernel
theorem dL_family_105 : decode cL_family 105 = .ok (.imul, 1) := by decide +kernel
theorem dL_family_106 : decode cL_family 106 = .ok (.iaload, 1) := by decide +kernel
theorem dL_family_107 : decode cL_family 107 = .ok (.iload 6, 2) := by decide +kernel
theorem dL_family_109 : decode cL_family 109 = .ok (.if_icmp .ne 7, 3) := by decide +kernel
theorem dL_family_112 : decode cL_family 112 = .ok (.iconst 1, 1) := by decide +kernel
theorem dL_family_113 : decode cL_family 113 = .ok (.goto 4, 3) := by decide +kernel
theorem dL_family_116 : decode cL_family 116 = .ok (.iconst 0, 1) := by decide +kernel
theorem dL_family_117 : decode cL_family 117 = .ok (.istore 8, 2) := by decide +kernel
theorem dL_family_119 : decode cL_family 119 = .ok (.iload 4, 2) := by decide +kernel
theorem dL_family_121 : decode cL_family 121 = .ok (.iload 8, 2) := by decide +kernel
theorem dL_family_123 : decode cL_family 123 = .ok (.ifCond .eq 10, 3) := by decide +kernel
theorem dL_family_126 : decode cL_family 126 = .ok (.iconst 1, 1) := by decide +kernel
theorem dL_family_127 : decode cL_family 127 = .ok (.iload 7, 2) := by decide +kernel
theorem dL_family_129 : decode cL_family 129 = .ok (.ishl, 1) := by decide +kernel
theorem dL_family_130 : decode cL_family 130 = .ok (.goto 4, 3) := by decide +kernel
theorem dL_family_133 : decode cL_family 133 = .ok (.iconst 0, 1) := by decide +kernel
theorem dL_family_134 : decode cL_family 134 = .ok (.ior, 1) := by decide +kernel
theorem dL_family_135 : decode cL_family 135 = .ok (.istore 4, 2) := by decide +kernel
theorem dL_family_137 : decode cL_family 137 = .ok (.iinc 7 1, 3) := by decide +kernel
theorem dL_family_140 : decode cL_family 140 = .ok (.goto (-107), 3) := by decide +kernel
theorem dL_family_143 : decode cL_family 143 = .ok (.iinc 6 1, 3) := by decide +kernel
theorem dL_family_146 : decode cL_family 146 = .ok (.goto (-124), 3) := by decide +kernel
theorem dL_family_149 : decode cL_family 149 = .ok (.goto (-141), 3) := by decide +kernel
theorem dL_family_152 : decode cL_family 152 = .ok (.iload 4, 2) := by decide +kernel
theorem dL_family_154 : decode cL_family 154 = .ok (.ireturn, 1) := by decide +kernel
theorem dL_lowest_0 : decode cL_lowest 0 = .ok (.iconst 0, 1) := by decide +kernel
theorem dL_lowest_1 : decode cL_lowest 1 = .ok (.istore_n 1, 1) := by decide +kernel
theorem dL_lowest_2 : decode cL_lowest 2 = .ok (.iload_n 0, 1) := by decide +kernel
theorem dL_lowest_3 : decode cL_lowest 3 = .ok (.iload_n 1, 1) := by decide +kernel
theorem dL_lowest_4 : decode cL_lowest 4 = .ok (.ishr, 1) := by decide +kernel
theorem dL_lowest_5 : decode cL_lowest 5 = .ok (.iconst 1, 1) := by decide +kernel
theorem dL_lowest_6 : decode cL_lowest 6 = .ok (.iand, 1) := by decide +kernel
theorem dL_lowest_7 : decode cL_lowest 7 = .ok (.ifCond .ne 9, 3) := by decide +kernel
theorem dL_lowest_10 : decode cL_lowest 10 = .ok (.iinc 1 1, 3) := by decide +kernel
theorem dL_lowest_13 : decode cL_lowest 13 = .ok (.goto (-11), 3) := by decide +kernel
theorem dL_lowest_16 : decode cL_lowest 16 = .ok (.iload_n 1, 1) := by decide +kernel
theorem dL_lowest_17 : decode cL_lowest 17 = .ok (.ireturn, 1) := by decide +kernel
set_option maxRecDepth 20000 in
theorem ggL_guess_L_shared : GoodIn wsL_guess wsL_shared := goodIn_r _ [4, 5, 6, 3, 7, 8] (by decide +kernel) (by decide +kernel)
set_option maxRecDepth 20000 in
theorem gL_guess_L_shared : GoodIn wsL_guess (va_wsS RL 19 yL_shared wsL_shared) := goodIn_app (goodIn_of _ (by decide +kernel)) ggL_guess_L_shared
set_option maxRecDepth 20000 in
theorem ggL_guess_L_errors : GoodIn wsL_guess wsL_errors := goodIn_r _ [11, 5, 6, 3, 7, 8] (by decide +kernel) (by decide +kernel)
set_option maxRecDepth 20000 in
theorem gL_guess_L_errors : GoodIn wsL_guess (va_wsS RL 23 yL_errors wsL_errors) := goodIn_app (goodIn_of _ (by decide +kernel)) ggL_guess_L_errors
theorem dL_guess_0 : decode cL_guess 0 = .ok (.iload_n 2, 1) := by decide +kernel
theorem dL_guess_1 : decode cL_guess 1 = .ok (.ifCond .eq 14, 3) := by decide +kernel
theorem dL_guess_4 : decode cL_guess 4 = .ok (.aload_n 1, 1) := by decide +kernel
theorem dL_guess_5 : decode cL_guess 5 = .ok (.iconst 4, 1) := by decide +kernel
theorem dL_guess_6 : decode cL_guess 6 = .ok (.iload_n 2, 1) := by decide +kernel
theorem dL_guess_7 : decode cL_guess 7 = .ok (.imul, 1) := by decide +kernel
theorem dL_guess_8 : decode cL_guess 8 = .ok (.iconst 1, 1) := by decide +kernel
theorem dL_guess_9 : decode cL_guess 9 = .ok (.iadd, 1) := by decide +kernel
theorem dL_guess_10 : decode cL_guess 10 = .ok (.iaload, 1) := by decide +kernel
theorem dL_guess_11 : decode cL_guess 11 = .ok (.iconst 1, 1) := by decide +kernel
theorem dL_guess_12 : decode cL_guess 12 = .ok (.if_icmp .ne 9, 3) := by decide +kernel
theorem dL_guess_15 : decode cL_guess 15 = .ok (.aload_n 1, 1) := by decide +kernel
theorem dL_guess_16 : decode cL_guess 16 = .ok (.iconst 4, 1) := by decide +kernel
theorem dL_guess_17 : decode cL_guess 17 = .ok (.iload_n 2, 1) := by decide +kernel
theorem dL_guess_18 : decode cL_guess 18 = .ok (.imul, 1) := by decide +kernel
theorem dL_guess_19 : decode cL_guess 19 = .ok (.iaload, 1) := by decide +kernel
theorem dL_guess_20 : decode cL_guess 20 = .ok (.ireturn, 1) := by decide +kernel
theorem dL_guess_21 : decode cL_guess 21 = .ok (.iload_n 2, 1) := by decide +kernel
theorem dL_guess_22 : decode cL_guess 22 = .ok (.iconst 1, 1) := by decide +kernel
theorem dL_guess_23 : decode cL_guess 23 = .ok (.isub, 1) := by decide +kernel
theorem dL_guess_24 : decode cL_guess 24 = .ok (.istore_n 3, 1) := by decide +kernel
theorem dL_guess_25 : decode cL_guess 25 = .ok (.bipush (-100), 2) := by decide +kernel
theorem dL_guess_27 : decode cL_guess 27 = .ok (.istore 4, 2) := by decide +kernel
theorem dL_guess_29 : decode cL_guess 29 = .ok (.iload_n 2, 1) := by decide +kernel
theorem dL_guess_30 : decode cL_guess 30 = .ok (.iconst 1, 1) := by decide +kernel
theorem dL_guess_31 : decode cL_guess 31 = .ok (.isub, 1) := by decide +kernel
theorem dL_guess_32 : decode cL_guess 32 = .ok (.istore 5, 2) := by decide +kernel
theorem dL_guess_34 : decode cL_guess 34 = .ok (.iload 5, 2) := by decide +kernel
theorem dL_guess_36 : decode cL_guess 36 = .ok (.ifCond .lt 68, 3) := by decide +kernel
theorem dL_guess_39 : decode cL_guess 39 = .ok (.aload_n 0, 1) := by decide +kernel
theorem dL_guess_40 : decode cL_guess 40 = .ok (.iload_n 2, 1) := by decide +kernel
theorem dL_guess_41 : decode cL_guess 41 = .ok (.laload, 1) := by decide +kernel
theorem dL_guess_42 : decode cL_guess 42 = .ok (.aload_n 0, 1) := by decide +kernel
theorem dL_guess_43 : decode cL_guess 43 = .ok (.iload 5, 2) := by decide +kernel
theorem dL_guess_45 : decode cL_guess 45 = .ok (.laload, 1) := by decide +kernel
theorem dL_guess_46 : decode cL_guess 46 = .ok (.invokestatic 19, 3) := by decide +kernel
theorem dL_guess_49 : decode cL_guess 49 = .ok (.istore 6, 2) := by decide +kernel
theorem dL_guess_51 : decode cL_guess 51 = .ok (.iconst 2, 1) := by decide +kernel
theorem dL_guess_52 : decode cL_guess 52 = .ok (.iload 6, 2) := by decide +kernel
theorem dL_guess_54 : decode cL_guess 54 = .ok (.imul, 1) := by decide +kernel
theorem dL_guess_55 : decode cL_guess 55 = .ok (.aload_n 0, 1) := by decide +kernel
theorem dL_guess_56 : decode cL_guess 56 = .ok (.iload 5, 2) := by decide +kernel
theorem dL_guess_58 : decode cL_guess 58 = .ok (.laload, 1) := by decide +kernel
theorem dL_guess_59 : decode cL_guess 59 = .ok (.invokestatic 23, 3) := by decide +kernel
theorem dL_guess_62 : decode cL_guess 62 = .ok (.iload 6, 2) := by decide +kernel
theorem dL_guess_64 : decode cL_guess 64 = .ok (.isub, 1) := by decide +kernel
theorem dL_guess_65 : decode cL_guess 65 = .ok (.isub, 1) := by decide +kernel
theorem dL_guess_66 : decode cL_guess 66 = .ok (.istore 7, 2) := by decide +kernel
theorem dL_guess_68 : decode cL_guess 68 = .ok (.iload 7, 2) := by decide +kernel
theorem dL_guess_70 : decode cL_guess 70 = .ok (.iload 4, 2) := by decide +kernel
theorem dL_guess_72 : decode cL_guess 72 = .ok (.if_icmp .lt 8, 3) := by decide +kernel
theorem dL_guess_75 : decode cL_guess 75 = .ok (.iload 5, 2) := by decide +kernel
theorem dL_guess_77 : decode cL_guess 77 = .ok (.goto 4, 3) := by decide +kernel
theorem dL_guess_80 : decode cL_guess 80 = .ok (.iload_n 3, 1) := by decide +kernel
theorem dL_guess_81 : decode cL_guess 81 = .ok (.istore_n 3, 1) := by decide +kernel
theorem dL_guess_82 : decode cL_guess 82 = .ok (.iload 7, 2) := by decide +kernel
theorem dL_guess_84 : decode cL_guess 84 = .ok (.iload 4, 2) := by decide +kernel
theorem dL_guess_86 : decode cL_guess 86 = .ok (.if_icmp .lt 8, 3) := by decide +kernel
theorem dL_guess_89 : decode cL_guess 89 = .ok (.iload 7, 2) := by decide +kernel
theorem dL_guess_91 : decode cL_guess 91 = .ok (.goto 5, 3) := by decide +kernel
theorem dL_guess_94 : decode cL_guess 94 = .ok (.iload 4, 2) := by decide +kernel
theorem dL_guess_96 : decode cL_guess 96 = .ok (.istore 4, 2) := by decide +kernel
theorem dL_guess_98 : decode cL_guess 98 = .ok (.iinc 5 (-1), 3) := by decide +kernel
theorem dL_guess_101 : decode cL_guess 101 = .ok (.goto (-67), 3) := by decide +kernel
theorem dL_guess_104 : decode cL_guess 104 = .ok (.iload_n 3, 1) := by decide +kernel
theorem dL_guess_105 : decode cL_guess 105 = .ok (.ireturn, 1) := by decide +kernel
theorem dL_late_0 : decode cL_late 0 = .ok (.aload_n 1, 1) := by decide +kernel
theorem dL_late_1 : decode cL_late 1 = .ok (.iconst 2, 1) := by decide +kernel
theorem dL_late_2 : decode cL_late 2 = .ok (.iaload, 1) := by decide +kernel
theorem dL_late_3 : decode cL_late 3 = .ok (.aload_n 0, 1) := by decide +kernel
theorem dL_late_4 : decode cL_late 4 = .ok (.bipush 6, 2) := by decide +kernel
theorem dL_late_6 : decode cL_late 6 = .ok (.iload_n 2, 1) := by decide +kernel
theorem dL_late_7 : decode cL_late 7 = .ok (.imul, 1) := by decide +kernel
theorem dL_late_8 : decode cL_late 8 = .ok (.iconst 2, 1) := by decide +kernel
theorem dL_late_9 : decode cL_late 9 = .ok (.iadd, 1) := by decide +kernel
theorem dL_late_10 : decode cL_late 10 = .ok (.iaload, 1) := by decide +kernel
theorem dL_late_11 : decode cL_late 11 = .ok (.isub, 1) := by decide +kernel
theorem dL_late_12 : decode cL_late 12 = .ok (.istore_n 3, 1) := by decide +kernel
theorem dL_late_13 : decode cL_late 13 = .ok (.aload_n 0, 1) := by decide +kernel
theorem dL_late_14 : decode cL_late 14 = .ok (.bipush 6, 2) := by decide +kernel
theorem dL_late_16 : decode cL_late 16 = .ok (.iload_n 2, 1) := by decide +kernel
theorem dL_late_17 : decode cL_late 17 = .ok (.imul, 1) := by decide +kernel
theorem dL_late_18 : decode cL_late 18 = .ok (.iconst 5, 1) := by decide +kernel
theorem dL_late_19 : decode cL_late 19 = .ok (.iadd, 1) := by decide +kernel
theorem dL_late_20 : decode cL_late 20 = .ok (.iaload, 1) := by decide +kernel
theorem dL_late_21 : decode cL_late 21 = .ok (.iconst 1, 1) := by decide +kernel
theorem dL_late_22 : decode cL_late 22 = .ok (.if_icmp .ne 14, 3) := by decide +kernel
theorem dL_late_25 : decode cL_late 25 = .ok (.aload_n 0, 1) := by decide +kernel
theorem dL_late_26 : decode cL_late 26 = .ok (.bipush 6, 2) := by decide +kernel
theorem dL_late_28 : decode cL_late 28 = .ok (.iload_n 2, 1) := by decide +kernel
theorem dL_late_29 : decode cL_late 29 = .ok (.imul, 1) := by decide +kernel
theorem dL_late_30 : decode cL_late 30 = .ok (.iconst 4, 1) := by decide +kernel
theorem dL_late_31 : decode cL_late 31 = .ok (.iadd, 1) := by decide +kernel
theorem dL_late_32 : decode cL_late 32 = .ok (.iaload, 1) := by decide +kernel
theorem dL_late_33 : decode cL_late 33 = .ok (.goto 12, 3) := by decide +kernel
theorem dL_late_36 : decode cL_late 36 = .ok (.iload_n 3, 1) := by decide +kernel
theorem dL_late_37 : decode cL_late 37 = .ok (.ifCond .le 7, 3) := by decide +kernel
theorem dL_late_40 : decode cL_late 40 = .ok (.iload_n 3, 1) := by decide +kernel
theorem dL_late_41 : decode cL_late 41 = .ok (.goto 4, 3) := by decide +kernel
theorem dL_late_44 : decode cL_late 44 = .ok (.iconst 0, 1) := by decide +kernel
theorem dL_late_45 : decode cL_late 45 = .ok (.ireturn, 1) := by decide +kernel
set_option maxRecDepth 20000 in
theorem ggL_areCopies_X5_copies : GoodIn wsL_areCopies wsX5_copies := goodIn_r _ [5, 6, 7, 8, 9, 10, 11, 12, 181, 182, 183, 184, 185, 186, 187, 188, 189, 190] (by decide +kernel) (by decide +kernel)
set_option maxRecDepth 20000 in
theorem gL_areCopies_X5_copies : GoodIn wsL_areCopies (wsV RL 27 RX5 yX5_copies wsX5_copies) := goodIn_app (goodIn_of _ (by decide +kernel)) ggL_areCopies_X5_copies
set_option maxRecDepth 20000 in
theorem ggL_areCopies_L_family : GoodIn wsL_areCopies wsL_family := goodIn_r _ [16, 17, 18, 15, 19, 20, 21, 22, 23] (by decide +kernel) (by decide +kernel)
set_option maxRecDepth 20000 in
theorem gL_areCopies_L_family : GoodIn wsL_areCopies (va_wsS RL 33 yL_family wsL_family) := goodIn_app (goodIn_of _ (by decide +kernel)) ggL_areCopies_L_family
set_option maxRecDepth 20000 in
theorem ggL_areCopies_L_lowest : GoodIn wsL_areCopies wsL_lowest := goodIn_r _ [26] (by decide +kernel) (by decide +kernel)
set_option maxRecDepth 20000 in
theorem gL_areCopies_L_lowest : GoodIn wsL_areCopies (va_wsS RL 37 yL_lowest wsL_lowest) := goodIn_app (goodIn_of _ (by decide +kernel)) ggL_areCopies_L_lowest
set_option maxRecDepth 20000 in
theorem ggL_areCopies_L_guess : GoodIn wsL_areCopies wsL_guess := goodIn_r _ [29, 17, 18, 15, 19, 20, 21, 22, 23, 30, 31, 32] (by decide +kernel) (by decide +kernel)
set_option maxRecDepth 20000 in
theorem gL_areCopies_L_guess : GoodIn wsL_areCopies (va_wsS RL 41 yL_guess wsL_guess) := goodIn_app (goodIn_of _ (by decide +kernel)) ggL_areCopies_L_guess
set_option maxRecDepth 20000 in
theorem ggL_areCopies_L_place : GoodIn wsL_areCopies wsL_place := goodIn_r _ [35] (by decide +kernel) (by decide +kernel)
set_option maxRecDepth 20000 in
theorem gL_areCopies_L_place : GoodIn wsL_areCopies (va_wsS RL 45 yL_place wsL_place) := goodIn_app (goodIn_of _ (by decide +kernel)) ggL_areCopies_L_place
set_option maxRecDepth 20000 in
theorem ggL_areCopies_X5_reading : GoodIn wsL_areCopies wsX5_reading := goodIn_ca (goodIn_r _ [39, 40, 41, 42, 43, 4, 44, 45, 46, 6, 47, 7, 8, 9, 10, 11, 12, 48, 49, 50, 51, 52, 53, 54, 55, 56, 57, 58, 59, 60, 61, 62, 63, 64, 65, 66, 67, 191, 192, 193, 194, 195, 196, 197, 181, 182, 183, 184, 185, 186, 187, 188, 189, 190] (by decide +kernel) (by decide +kernel)) (goodIn_sub (fun _ h => List.mem_cons_of_mem _ (List.mem_append_left _ (List.mem_append_right _ h))) (by decide +kernel))
set_option maxRecDepth 20000 in
theorem gL_areCopies_X5_reading : GoodIn wsL_areCopies (wsV RL 48 RX5 yX5_reading wsX5_reading) := goodIn_app (goodIn_of _ (by decide +kernel)) ggL_areCopies_X5_reading
set_option maxRecDepth 20000 in
theorem ggL_areCopies_L_get : GoodIn wsL_areCopies wsL_get := goodIn_r _ [22, 23] (by decide +kernel) (by decide +kernel)
set_option maxRecDepth 20000 in
theorem gL_areCopies_L_get : GoodIn wsL_areCopies (va_wsS RL 13 yL_get wsL_get) := goodIn_app (goodIn_of _ (by decide +kernel)) ggL_areCopies_L_get
set_option maxRecDepth 20000 in
theorem ggL_areCopies_X5_errors : GoodIn wsL_areCopies wsX5_errors := goodIn_ca (goodIn_r _ [71, 41, 42, 43, 4, 44, 45, 46, 6, 47, 7, 8, 9, 10, 11, 12, 48, 49, 50, 51, 52, 53, 54, 55, 56, 57, 58, 59, 60, 61, 62, 63, 64, 72, 73, 74, 75, 76, 77, 78, 79, 80, 81, 181, 182, 183, 184, 185, 186, 187, 188, 189, 190, 191, 192, 193, 194, 195, 196, 197] (by decide +kernel) (by decide +kernel)) (goodIn_sub (fun _ h => List.mem_cons_of_mem _ (List.mem_append_left _ (List.mem_append_right _ h))) (by decide +kernel))
set_option maxRecDepth 20000 in
theorem gL_areCopies_X5_errors : GoodIn wsL_areCopies (wsV RL 52 RX5 yX5_errors wsX5_errors) := goodIn_app (goodIn_of _ (by decide +kernel)) ggL_areCopies_X5_errors
set_option maxRecDepth 20000 in
theorem ggL_areCopies_L_errors : GoodIn wsL_areCopies wsL_errors := goodIn_r _ [32, 20, 21, 15, 22, 23] (by decide +kernel) (by decide +kernel)
set_option maxRecDepth 20000 in
theorem gL_areCopies_L_errors : GoodIn wsL_areCopies (va_wsS RL 23 yL_errors wsL_errors) := goodIn_app (goodIn_of _ (by decide +kernel)) ggL_areCopies_L_errors
set_option maxRecDepth 20000 in
theorem ggL_areCopies_X5_shared : GoodIn wsL_areCopies wsX5_shared := goodIn_ca (goodIn_r _ [85, 41, 42, 43, 4, 44, 45, 46, 6, 47, 7, 8, 9, 10, 11, 12, 48, 49, 50, 51, 52, 53, 54, 55, 56, 57, 58, 59, 60, 61, 62, 63, 64, 86, 78, 79, 75, 80, 81, 181, 182, 183, 184, 185, 186, 187, 188, 189, 190, 191, 192, 193, 194, 195, 196, 197] (by decide +kernel) (by decide +kernel)) (goodIn_sub (fun _ h => List.mem_cons_of_mem _ (List.mem_append_left _ (List.mem_append_right _ h))) (by decide +kernel))
set_option maxRecDepth 20000 in
theorem gL_areCopies_X5_shared : GoodIn wsL_areCopies (wsV RL 54 RX5 yX5_shared wsX5_shared) := goodIn_app (goodIn_of _ (by decide +kernel)) ggL_areCopies_X5_shared
set_option maxRecDepth 20000 in
theorem ggL_areCopies_L_shared : GoodIn wsL_areCopies wsL_shared := goodIn_r _ [19, 20, 21, 15, 22, 23] (by decide +kernel) (by decide +kernel)
set_option maxRecDepth 20000 in
theorem gL_areCopies_L_shared : GoodIn wsL_areCopies (va_wsS RL 19 yL_shared wsL_shared) := goodIn_app (goodIn_of _ (by decide +kernel)) ggL_areCopies_L_shared
set_option maxRecDepth 20000 in
theorem ggL_areCopies_X5_houseOf : GoodIn wsL_areCopies wsX5_houseOf := goodIn_ca (goodIn_r _ [90, 91, 92, 41, 42, 43, 4, 44, 45, 46, 6, 47, 7, 8, 9, 10, 11, 12, 48, 49, 50, 51, 52, 53, 54, 55, 56, 57, 58, 59, 60, 61, 62, 63, 64, 191, 192, 193, 194, 195, 196, 197, 198, 199, 200, 201, 181, 182, 183, 184, 185, 186, 187, 188, 189, 190] (by decide +kernel) (by decide +kernel)) (goodIn_sub (fun _ h => List.mem_cons_of_mem _ (List.mem_append_left _ (List.mem_append_right _ h))) (by decide +kernel))
set_option maxRecDepth 20000 in
theorem gL_areCopies_X5_houseOf : GoodIn wsL_areCopies (wsV RL 56 RX5 yX5_houseOf wsX5_houseOf) := goodIn_app (goodIn_of _ (by decide +kernel)) ggL_areCopies_X5_houseOf
set_option maxRecDepth 20000 in
theorem ggL_areCopies_X5_ownerOf : GoodIn wsL_areCopies wsX5_ownerOf := goodIn_ca (goodIn_r _ [96, 97, 92, 41, 42, 43, 4, 44, 45, 46, 6, 47, 7, 8, 9, 10, 11, 12, 48, 49, 50, 51, 52, 53, 54, 55, 56, 57, 58, 59, 60, 61, 62, 63, 64, 191, 192, 193, 194, 195, 196, 197, 198, 199, 200, 201, 181, 182, 183, 184, 185, 186, 187, 188, 189, 190] (by decide +kernel) (by decide +kernel)) (goodIn_sub (fun _ h => List.mem_cons_of_mem _ (List.mem_append_left _ (List.mem_append_right _ h))) (by decide +kernel))
set_option maxRecDepth 20000 in
theorem gL_areCopies_X5_ownerOf : GoodIn wsL_areCopies (wsV RL 59 RX5 yX5_ownerOf wsX5_ownerOf) := goodIn_app (goodIn_of _ (by decide +kernel)) ggL_areCopies_X5_ownerOf
set_option maxRecDepth 20000 in
theorem ggL_areCopies_X5_toldModel : GoodIn wsL_areCopies wsX5_toldModel := goodIn_ca (goodIn_r _ [101, 41, 42, 43, 4, 44, 45, 46, 6, 47, 7, 8, 9, 10, 11, 12, 48, 49, 50, 51, 52, 53, 54, 55, 56, 57, 58, 59, 60, 61, 62, 63, 64, 102, 103, 104, 75, 105, 106, 107, 108, 109, 110, 111, 181, 182, 183, 184, 185, 186, 187, 188, 189, 190, 191, 192, 193, 194, 195, 196, 197] (by decide +kernel) (by decide +kernel)) (goodIn_sub (fun _ h => List.mem_cons_of_mem _ (List.mem_append_left _ (List.mem_append_right _ h))) (by decide +kernel))
set_option maxRecDepth 20000 in
theorem gL_areCopies_X5_toldModel : GoodIn wsL_areCopies (wsV RL 62 RX5 yX5_toldModel wsX5_toldModel) := goodIn_app (goodIn_of _ (by decide +kernel)) ggL_areCopies_X5_toldModel
set_option maxRecDepth 20000 in
theorem ggL_areCopies_X5_family : GoodIn wsL_areCopies wsX5_family := goodIn_ca (goodIn_r _ [115, 116, 41, 42, 43, 4, 44, 45, 46, 6, 47, 7, 8, 9, 10, 11, 12, 48, 49, 50, 51, 52, 53, 54, 55, 56, 57, 58, 59, 60, 61, 62, 63, 64, 191, 192, 193, 194, 195, 196, 197, 181, 182, 183, 184, 185, 186, 187, 188, 189, 190] (by decide +kernel) (by decide +kernel)) (goodIn_sub (fun _ h => List.mem_cons_of_mem _ (List.mem_append_left _ (List.mem_append_right _ h))) (by decide +kernel))
set_option maxRecDepth 20000 in
theorem gL_areCopies_X5_family : GoodIn wsL_areCopies (wsV RL 65 RX5 yX5_family wsX5_family) := goodIn_app (goodIn_of _ (by decide +kernel)) ggL_areCopies_X5_family
set_option maxRecDepth 20000 in
theorem ggL_areCopies_X5_familyByErrors : GoodIn wsL_areCopies wsX5_familyByErrors := goodIn_ca (goodIn_r _ [120, 6, 121, 47, 41, 42, 43, 4, 44, 45, 46, 7, 8, 9, 10, 11, 12, 48, 49, 50, 51, 52, 53, 54, 55, 56, 57, 58, 59, 60, 61, 62, 63, 64, 122, 123, 124, 111, 125, 126, 127, 128, 129, 130, 131, 132, 40, 133, 134, 135, 136, 137, 138, 139, 140, 102, 103, 104, 75, 105, 106, 107, 181, 182, 183, 184, 185, 186, 187, 188, 189, 190, 191, 192, 193, 194, 195, 196, 197] (by decide +kernel) (by decide +kernel)) (goodIn_sub (fun _ h => List.mem_cons_of_mem _ (List.mem_append_left _ (List.mem_append_right _ h))) (by decide +kernel))
set_option maxRecDepth 20000 in
theorem gL_areCopies_X5_familyByErrors : GoodIn wsL_areCopies (wsV RL 67 RX5 yX5_familyByErrors wsX5_familyByErrors) := goodIn_app (goodIn_of _ (by decide +kernel)) ggL_areCopies_X5_familyByErrors
set_option maxRecDepth 20000 in
theorem ggL_areCopies_X5_guess : GoodIn wsL_areCopies wsX5_guess := goodIn_ca (goodIn_r _ [144, 41, 42, 43, 4, 44, 45, 46, 6, 47, 7, 8, 9, 10, 11, 12, 48, 49, 50, 51, 52, 53, 54, 55, 56, 57, 58, 59, 60, 61, 62, 63, 64, 145, 146, 147, 148, 111, 102, 103, 104, 75, 105, 106, 107, 149, 150, 151, 86, 78, 79, 80, 81, 72, 73, 74, 76, 77, 108, 109, 110, 181, 182, 183, 184, 185, 186, 187, 188, 189, 190, 191, 192, 193, 194, 195, 196, 197] (by decide +kernel) (by decide +kernel)) (goodIn_sub (fun _ h => List.mem_cons_of_mem _ (List.mem_append_left _ (List.mem_append_right _ h))) (by decide +kernel))
set_option maxRecDepth 20000 in
theorem gL_areCopies_X5_guess : GoodIn wsL_areCopies (wsV RL 70 RX5 yX5_guess wsX5_guess) := goodIn_app (goodIn_of _ (by decide +kernel)) ggL_areCopies_X5_guess
set_option maxRecDepth 20000 in
theorem ggL_areCopies_X5_families : GoodIn wsL_areCopies wsX5_families := goodIn_r _ [155, 6, 47, 116, 7, 8, 9, 10, 11, 12, 48, 49, 50, 51, 52, 53, 54, 55, 56, 57, 58, 59, 60, 61, 62, 63, 64, 181, 182, 183, 184, 185, 186, 187, 191, 192, 193, 194, 195, 196, 197, 188, 189, 190] (by decide +kernel) (by decide +kernel)
set_option maxRecDepth 20000 in
theorem gL_areCopies_X5_families : GoodIn wsL_areCopies (wsV RL 72 RX5 yX5_families wsX5_families) := goodIn_app (goodIn_of _ (by decide +kernel)) ggL_areCopies_X5_families
set_option maxRecDepth 20000 in
theorem ggL_areCopies_X5_rightGuesses : GoodIn wsL_areCopies wsX5_rightGuesses := goodIn_r _ [159, 6, 47, 160, 7, 8, 9, 10, 11, 12, 48, 49, 50, 51, 52, 53, 54, 55, 56, 57, 58, 59, 60, 61, 62, 63, 64, 145, 146, 147, 4, 148, 111, 102, 103, 104, 75, 105, 106, 107, 149, 150, 151, 86, 78, 79, 80, 81, 72, 73, 74, 76, 77, 181, 182, 183, 184, 185, 186, 187, 191, 192, 193, 194, 195, 196, 197, 188, 189, 190] (by decide +kernel) (by decide +kernel)
set_option maxRecDepth 20000 in
theorem gL_areCopies_X5_rightGuesses : GoodIn wsL_areCopies (wsV RL 75 RX5 yX5_rightGuesses wsX5_rightGuesses) := goodIn_app (goodIn_of _ (by decide +kernel)) ggL_areCopies_X5_rightGuesses
set_option maxRecDepth 20000 in
theorem ggL_areCopies_X5_spread : GoodIn wsL_areCopies wsX5_spread := goodIn_ca (goodIn_ca (goodIn_r _ [164, 165, 166, 4, 167, 168, 169, 65, 66, 67, 45, 46, 133, 134, 135, 136, 6, 47, 40, 7, 8, 9, 10, 11, 12, 48, 49, 50, 51, 52, 53, 54, 55, 56, 57, 58, 59, 60, 61, 62, 63, 64, 122, 123, 124, 111, 170, 171, 172, 173, 174, 175, 176, 181, 182, 183, 184, 185, 186, 187, 191, 192, 193, 194, 195, 196, 197, 188, 189, 190] (by decide +kernel) (by decide +kernel)) (goodIn_sub (fun _ h => List.mem_cons_of_mem _ (List.mem_append_right _ h)) (by decide +kernel))) (goodIn_sub (fun _ h => List.mem_cons_of_mem _ (List.mem_append_left _ (List.mem_append_right _ h))) (by decide +kernel))
set_option maxRecDepth 20000 in
theorem gL_areCopies_X5_spread : GoodIn wsL_areCopies (wsV RL 78 RX5 yX5_spread wsX5_spread) := goodIn_app (goodIn_of _ (by decide +kernel)) ggL_areCopies_X5_spread
set_option maxRecDepth 20000 in
theorem ggL_areCopies_X5_sources : GoodIn wsL_areCopies wsX5_sources := goodIn_ca (goodIn_ca (goodIn_r _ [180, 6, 47, 40, 165, 166, 4, 167, 168, 169, 65, 66, 67, 45, 46, 7, 8, 9, 10, 11, 12, 48, 49, 50, 51, 52, 53, 54, 55, 56, 57, 58, 59, 60, 61, 62, 63, 64, 145, 146, 147, 148, 111, 102, 103, 104, 75, 105, 106, 107, 149, 150, 151, 86, 78, 79, 80, 81, 72, 73, 74, 76, 77, 181, 182, 183, 184, 185, 186, 187, 191, 192, 193, 194, 195, 196, 197, 188, 189, 190] (by decide +kernel) (by decide +kernel)) (goodIn_sub (fun _ h => List.mem_cons_of_mem _ (List.mem_append_right _ h)) (by decide +kernel))) (goodIn_sub (fun _ h => List.mem_cons_of_mem _ (List.mem_append_left _ (List.mem_append_right _ h))) (by decide +kernel))
set_option maxRecDepth 20000 in
theorem gL_areCopies_X5_sources : GoodIn wsL_areCopies (wsV RL 81 RX5 yX5_sources wsX5_sources) := goodIn_app (goodIn_of _ (by decide +kernel)) ggL_areCopies_X5_sources
theorem dL_areCopies_0 : decode cL_areCopies 0 = .ok (.iconst 0, 1) := by decide +kernel
theorem dL_areCopies_1 : decode cL_areCopies 1 = .ok (.istore 5, 2) := by decide +kernel
theorem dL_areCopies_3 : decode cL_areCopies 3 = .ok (.iconst 0, 1) := by decide +kernel
theorem dL_areCopies_4 : decode cL_areCopies 4 = .ok (.istore 6, 2) := by decide +kernel
theorem dL_areCopies_6 : decode cL_areCopies 6 = .ok (.aload_n 0, 1) := by decide +kernel
theorem dL_areCopies_7 : decode cL_areCopies 7 = .ok (.invokevirtual 27, 3) := by decide +kernel
theorem dL_areCopies_10 : decode cL_areCopies 10 = .ok (.aload_n 3, 1) := by decide +kernel
theorem dL_areCopies_11 : decode cL_areCopies 11 = .ok (.iconst 0, 1) := by decide +kernel
theorem dL_areCopies_12 : decode cL_areCopies 12 = .ok (.iaload, 1) := by decide +kernel
theorem dL_areCopies_13 : decode cL_areCopies 13 = .ok (.if_icmp .ne 7, 3) := by decide +kernel
theorem dL_areCopies_16 : decode cL_areCopies 16 = .ok (.iconst 1, 1) := by decide +kernel
theorem dL_areCopies_17 : decode cL_areCopies 17 = .ok (.goto 4, 3) := by decide +kernel
theorem dL_areCopies_20 : decode cL_areCopies 20 = .ok (.iconst 0, 1) := by decide +kernel
theorem dL_areCopies_21 : decode cL_areCopies 21 = .ok (.istore 7, 2) := by decide +kernel
theorem dL_areCopies_23 : decode cL_areCopies 23 = .ok (.iconst 0, 1) := by decide +kernel
theorem dL_areCopies_24 : decode cL_areCopies 24 = .ok (.istore 8, 2) := by decide +kernel
theorem dL_areCopies_26 : decode cL_areCopies 26 = .ok (.iload 8, 2) := by decide +kernel
theorem dL_areCopies_28 : decode cL_areCopies 28 = .ok (.aload_n 3, 1) := by decide +kernel
theorem dL_areCopies_29 : decode cL_areCopies 29 = .ok (.iconst 0, 1) := by decide +kernel
theorem dL_areCopies_30 : decode cL_areCopies 30 = .ok (.iaload, 1) := by decide +kernel
theorem dL_areCopies_31 : decode cL_areCopies 31 = .ok (.if_icmp .ge 270, 3) := by decide +kernel
theorem dL_areCopies_34 : decode cL_areCopies 34 = .ok (.iload 7, 2) := by decide +kernel
theorem dL_areCopies_36 : decode cL_areCopies 36 = .ok (.ifCond .eq 265, 3) := by decide +kernel
theorem dL_areCopies_39 : decode cL_areCopies 39 = .ok (.aload_n 1, 1) := by decide +kernel
theorem dL_areCopies_40 : decode cL_areCopies 40 = .ok (.aload_n 2, 1) := by decide +kernel
theorem dL_areCopies_41 : decode cL_areCopies 41 = .ok (.aload_n 3, 1) := by decide +kernel
theorem dL_areCopies_42 : decode cL_areCopies 42 = .ok (.iload 8, 2) := by decide +kernel
theorem dL_areCopies_44 : decode cL_areCopies 44 = .ok (.invokestatic 33, 3) := by decide +kernel
theorem dL_areCopies_47 : decode cL_areCopies 47 = .ok (.invokestatic 37, 3) := by decide +kernel
theorem dL_areCopies_50 : decode cL_areCopies 50 = .ok (.istore 9, 2) := by decide +kernel
theorem dL_areCopies_52 : decode cL_areCopies 52 = .ok (.aload_n 1, 1) := by decide +kernel
theorem dL_areCopies_53 : decode cL_areCopies 53 = .ok (.aload_n 2, 1) := by decide +kernel
theorem dL_areCopies_54 : decode cL_areCopies 54 = .ok (.iload 8, 2) := by decide +kernel
theorem dL_areCopies_56 : decode cL_areCopies 56 = .ok (.invokestatic 41, 3) := by decide +kernel
theorem dL_areCopies_59 : decode cL_areCopies 59 = .ok (.istore 10, 2) := by decide +kernel
theorem dL_areCopies_61 : decode cL_areCopies 61 = .ok (.iload 8, 2) := by decide +kernel
theorem dL_areCopies_63 : decode cL_areCopies 63 = .ok (.iload 4, 2) := by decide +kernel
theorem dL_areCopies_65 : decode cL_areCopies 65 = .ok (.iadd, 1) := by decide +kernel
theorem dL_areCopies_66 : decode cL_areCopies 66 = .ok (.bipush 12, 2) := by decide +kernel
theorem dL_areCopies_68 : decode cL_areCopies 68 = .ok (.irem, 1) := by decide +kernel
theorem dL_areCopies_69 : decode cL_areCopies 69 = .ok (.istore 11, 2) := by decide +kernel
theorem dL_areCopies_71 : decode cL_areCopies 71 = .ok (.iload 6, 2) := by decide +kernel
theorem dL_areCopies_73 : decode cL_areCopies 73 = .ok (.iload 9, 2) := by decide +kernel
theorem dL_areCopies_75 : decode cL_areCopies 75 = .ok (.iload 8, 2) := by decide +kernel
theorem dL_areCopies_77 : decode cL_areCopies 77 = .ok (.if_icmp .ne 7, 3) := by decide +kernel
theorem dL_areCopies_80 : decode cL_areCopies 80 = .ok (.iconst 1, 1) := by decide +kernel
theorem dL_areCopies_81 : decode cL_areCopies 81 = .ok (.goto 4, 3) := by decide +kernel
theorem dL_areCopies_84 : decode cL_areCopies 84 = .ok (.iconst 0, 1) := by decide +kernel
theorem dL_areCopies_85 : decode cL_areCopies 85 = .ok (.iadd, 1) := by decide +kernel
theorem dL_areCopies_86 : decode cL_areCopies 86 = .ok (.istore 6, 2) := by decide +kernel
theorem dL_areCopies_88 : decode cL_areCopies 88 = .ok (.iload 5, 2) := by decide +kernel
theorem dL_areCopies_90 : decode cL_areCopies 90 = .ok (.iload 8, 2) := by decide +kernel
theorem dL_areCopies_92 : decode cL_areCopies 92 = .ok (.ifCond .le 18, 3) := by decide +kernel
theorem dL_areCopies_95 : decode cL_areCopies 95 = .ok (.iload 10, 2) := by decide +kernel
theorem dL_areCopies_97 : decode cL_areCopies 97 = .ok (.aload_n 2, 1) := by decide +kernel
theorem dL_areCopies_98 : decode cL_areCopies 98 = .ok (.iconst 4, 1) := by decide +kernel
theorem dL_areCopies_99 : decode cL_areCopies 99 = .ok (.iload 8, 2) := by decide +kernel
theorem dL_areCopies_101 : decode cL_areCopies 101 = .ok (.imul, 1) := by decide +kernel
theorem dL_areCopies_102 : decode cL_areCopies 102 = .ok (.iaload, 1) := by decide +kernel
theorem dL_areCopies_103 : decode cL_areCopies 103 = .ok (.if_icmp .ne 7, 3) := by decide +kernel
theorem dL_areCopies_106 : decode cL_areCopies 106 = .ok (.iconst 1, 1) := by decide +kernel
theorem dL_areCopies_107 : decode cL_areCopies 107 = .ok (.goto 4, 3) := by decide +kernel
theorem dL_areCopies_110 : decode cL_areCopies 110 = .ok (.iconst 0, 1) := by decide +kernel
theorem dL_areCopies_111 : decode cL_areCopies 111 = .ok (.iadd, 1) := by decide +kernel
theorem dL_areCopies_112 : decode cL_areCopies 112 = .ok (.istore 5, 2) := by decide +kernel
theorem dL_areCopies_114 : decode cL_areCopies 114 = .ok (.aload_n 0, 1) := by decide +kernel
theorem dL_areCopies_115 : decode cL_areCopies 115 = .ok (.iload 8, 2) := by decide +kernel
theorem dL_areCopies_117 : decode cL_areCopies 117 = .ok (.iload 11, 2) := by decide +kernel
theorem dL_areCopies_119 : decode cL_areCopies 119 = .ok (.invokestatic 45, 3) := by decide +kernel
theorem dL_areCopies_122 : decode cL_areCopies 122 = .ok (.invokevirtual 48, 3) := by decide +kernel
theorem dL_areCopies_125 : decode cL_areCopies 125 = .ok (.aload_n 1, 1) := by decide +kernel
theorem dL_areCopies_126 : decode cL_areCopies 126 = .ok (.iload 8, 2) := by decide +kernel
theorem dL_areCopies_128 : decode cL_areCopies 128 = .ok (.laload, 1) := by decide +kernel
theorem dL_areCopies_129 : decode cL_areCopies 129 = .ok (.iload 11, 2) := by decide +kernel
theorem dL_areCopies_131 : decode cL_areCopies 131 = .ok (.invokestatic 13, 3) := by decide +kernel
theorem dL_areCopies_134 : decode cL_areCopies 134 = .ok (.if_icmp .ne 158, 3) := by decide +kernel
theorem dL_areCopies_137 : decode cL_areCopies 137 = .ok (.aload_n 0, 1) := by decide +kernel
theorem dL_areCopies_138 : decode cL_areCopies 138 = .ok (.iload 8, 2) := by decide +kernel
theorem dL_areCopies_140 : decode cL_areCopies 140 = .ok (.invokevirtual 52, 3) := by decide +kernel
theorem dL_areCopies_143 : decode cL_areCopies 143 = .ok (.aload_n 1, 1) := by decide +kernel
theorem dL_areCopies_144 : decode cL_areCopies 144 = .ok (.iload 8, 2) := by decide +kernel
theorem dL_areCopies_146 : decode cL_areCopies 146 = .ok (.laload, 1) := by decide +kernel
theorem dL_areCopies_147 : decode cL_areCopies 147 = .ok (.invokestatic 23, 3) := by decide +kernel
theorem dL_areCopies_150 : decode cL_areCopies 150 = .ok (.if_icmp .ne 142, 3) := by decide +kernel
theorem dL_areCopies_153 : decode cL_areCopies 153 = .ok (.aload_n 0, 1) := by decide +kernel
theorem dL_areCopies_154 : decode cL_areCopies 154 = .ok (.iload 8, 2) := by decide +kernel
theorem dL_areCopies_156 : decode cL_areCopies 156 = .ok (.iload 4, 2) := by decide +kernel
theorem dL_areCopies_158 : decode cL_areCopies 158 = .ok (.aload_n 3, 1) := by decide +kernel
theorem dL_areCopies_159 : decode cL_areCopies 159 = .ok (.iconst 0, 1) := by decide +kernel
theorem dL_areCopies_160 : decode cL_areCopies 160 = .ok (.iaload, 1) := by decide +kernel
theorem dL_areCopies_161 : decode cL_areCopies 161 = .ok (.irem, 1) := by decide +kernel
theorem dL_areCopies_162 : decode cL_areCopies 162 = .ok (.invokevirtual 54, 3) := by decide +kernel
theorem dL_areCopies_165 : decode cL_areCopies 165 = .ok (.aload_n 1, 1) := by decide +kernel
theorem dL_areCopies_166 : decode cL_areCopies 166 = .ok (.iload 8, 2) := by decide +kernel
theorem dL_areCopies_168 : decode cL_areCopies 168 = .ok (.laload, 1) := by decide +kernel
theorem dL_areCopies_169 : decode cL_areCopies 169 = .ok (.aload_n 1, 1) := by decide +kernel
theorem dL_areCopies_170 : decode cL_areCopies 170 = .ok (.iload 4, 2) := by decide +kernel
theorem dL_areCopies_172 : decode cL_areCopies 172 = .ok (.aload_n 3, 1) := by decide +kernel
theorem dL_areCopies_173 : decode cL_areCopies 173 = .ok (.iconst 0, 1) := by decide +kernel
theorem dL_areCopies_174 : decode cL_areCopies 174 = .ok (.iaload, 1) := by decide +kernel
theorem dL_areCopies_175 : decode cL_areCopies 175 = .ok (.irem, 1) := by decide +kernel
theorem dL_areCopies_176 : decode cL_areCopies 176 = .ok (.laload, 1) := by decide +kernel
theorem dL_areCopies_177 : decode cL_areCopies 177 = .ok (.invokestatic 19, 3) := by decide +kernel
theorem dL_areCopies_180 : decode cL_areCopies 180 = .ok (.if_icmp .ne 112, 3) := by decide +kernel
theorem dL_areCopies_183 : decode cL_areCopies 183 = .ok (.aload_n 0, 1) := by decide +kernel
theorem dL_areCopies_184 : decode cL_areCopies 184 = .ok (.iload 8, 2) := by decide +kernel
theorem dL_areCopies_186 : decode cL_areCopies 186 = .ok (.invokevirtual 56, 3) := by decide +kernel
theorem dL_areCopies_189 : decode cL_areCopies 189 = .ok (.aload_n 2, 1) := by decide +kernel
theorem dL_areCopies_190 : decode cL_areCopies 190 = .ok (.iconst 4, 1) := by decide +kernel
theorem dL_areCopies_191 : decode cL_areCopies 191 = .ok (.iload 8, 2) := by decide +kernel
theorem dL_areCopies_193 : decode cL_areCopies 193 = .ok (.imul, 1) := by decide +kernel
theorem dL_areCopies_194 : decode cL_areCopies 194 = .ok (.iconst 3, 1) := by decide +kernel
theorem dL_areCopies_195 : decode cL_areCopies 195 = .ok (.iadd, 1) := by decide +kernel
theorem dL_areCopies_196 : decode cL_areCopies 196 = .ok (.iaload, 1) := by decide +kernel
theorem dL_areCopies_197 : decode cL_areCopies 197 = .ok (.if_icmp .ne 95, 3) := by decide +kernel
theorem dL_areCopies_200 : decode cL_areCopies 200 = .ok (.aload_n 0, 1) := by decide +kernel
theorem dL_areCopies_201 : decode cL_areCopies 201 = .ok (.iload 8, 2) := by decide +kernel
theorem dL_areCopies_203 : decode cL_areCopies 203 = .ok (.invokevirtual 59, 3) := by decide +kernel
theorem dL_areCopies_206 : decode cL_areCopies 206 = .ok (.aload_n 2, 1) := by decide +kernel
theorem dL_areCopies_207 : decode cL_areCopies 207 = .ok (.iconst 4, 1) := by decide +kernel
theorem dL_areCopies_208 : decode cL_areCopies 208 = .ok (.iload 8, 2) := by decide +kernel
theorem dL_areCopies_210 : decode cL_areCopies 210 = .ok (.imul, 1) := by decide +kernel
theorem dL_areCopies_211 : decode cL_areCopies 211 = .ok (.iconst 2, 1) := by decide +kernel
theorem dL_areCopies_212 : decode cL_areCopies 212 = .ok (.iadd, 1) := by decide +kernel
theorem dL_areCopies_213 : decode cL_areCopies 213 = .ok (.iaload, 1) := by decide +kernel
theorem dL_areCopies_214 : decode cL_areCopies 214 = .ok (.if_icmp .ne 78, 3) := by decide +kernel
theorem dL_areCopies_217 : decode cL_areCopies 217 = .ok (.aload_n 0, 1) := by decide +kernel
theorem dL_areCopies_218 : decode cL_areCopies 218 = .ok (.iload 8, 2) := by decide +kernel
theorem dL_areCopies_220 : decode cL_areCopies 220 = .ok (.invokevirtual 62, 3) := by decide +kernel
theorem dL_areCopies_223 : decode cL_areCopies 223 = .ok (.aload_n 2, 1) := by decide +kernel
theorem dL_areCopies_224 : decode cL_areCopies 224 = .ok (.iconst 4, 1) := by decide +kernel
theorem dL_areCopies_225 : decode cL_areCopies 225 = .ok (.iload 8, 2) := by decide +kernel
theorem dL_areCopies_227 : decode cL_areCopies 227 = .ok (.imul, 1) := by decide +kernel
theorem dL_areCopies_228 : decode cL_areCopies 228 = .ok (.iconst 1, 1) := by decide +kernel
theorem dL_areCopies_229 : decode cL_areCopies 229 = .ok (.iadd, 1) := by decide +kernel
theorem dL_areCopies_230 : decode cL_areCopies 230 = .ok (.iaload, 1) := by decide +kernel
theorem dL_areCopies_231 : decode cL_areCopies 231 = .ok (.iconst 1, 1) := by decide +kernel
theorem dL_areCopies_232 : decode cL_areCopies 232 = .ok (.if_icmp .ne 12, 3) := by decide +kernel
theorem dL_areCopies_235 : decode cL_areCopies 235 = .ok (.aload_n 2, 1) := by decide +kernel
theorem dL_areCopies_236 : decode cL_areCopies 236 = .ok (.iconst 4, 1) := by decide +kernel
theorem dL_areCopies_237 : decode cL_areCopies 237 = .ok (.iload 8, 2) := by decide +kernel
theorem dL_areCopies_239 : decode cL_areCopies 239 = .ok (.imul, 1) := by decide +kernel
theorem dL_areCopies_240 : decode cL_areCopies 240 = .ok (.iaload, 1) := by decide +kernel
theorem dL_areCopies_241 : decode cL_areCopies 241 = .ok (.goto 4, 3) := by decide +kernel
theorem dL_areCopies_244 : decode cL_areCopies 244 = .ok (.iconst (-1), 1) := by decide +kernel
theorem dL_areCopies_245 : decode cL_areCopies 245 = .ok (.if_icmp .ne 47, 3) := by decide +kernel
theorem dL_areCopies_248 : decode cL_areCopies 248 = .ok (.aload_n 0, 1) := by decide +kernel
theorem dL_areCopies_249 : decode cL_areCopies 249 = .ok (.iload 8, 2) := by decide +kernel
theorem dL_areCopies_251 : decode cL_areCopies 251 = .ok (.invokevirtual 65, 3) := by decide +kernel
theorem dL_areCopies_254 : decode cL_areCopies 254 = .ok (.iload 9, 2) := by decide +kernel
theorem dL_areCopies_256 : decode cL_areCopies 256 = .ok (.if_icmp .ne 36, 3) := by decide +kernel
theorem dL_areCopies_259 : decode cL_areCopies 259 = .ok (.iload 4, 2) := by decide +kernel
theorem dL_areCopies_261 : decode cL_areCopies 261 = .ok (.iconst 3, 1) := by decide +kernel
theorem dL_areCopies_262 : decode cL_areCopies 262 = .ok (.irem, 1) := by decide +kernel
theorem dL_areCopies_263 : decode cL_areCopies 263 = .ok (.ifCond .gt 14, 3) := by decide +kernel
theorem dL_areCopies_266 : decode cL_areCopies 266 = .ok (.aload_n 0, 1) := by decide +kernel
theorem dL_areCopies_267 : decode cL_areCopies 267 = .ok (.iload 8, 2) := by decide +kernel
theorem dL_areCopies_269 : decode cL_areCopies 269 = .ok (.invokevirtual 67, 3) := by decide +kernel
theorem dL_areCopies_272 : decode cL_areCopies 272 = .ok (.iload 9, 2) := by decide +kernel
theorem dL_areCopies_274 : decode cL_areCopies 274 = .ok (.if_icmp .ne 18, 3) := by decide +kernel
theorem dL_areCopies_277 : decode cL_areCopies 277 = .ok (.aload_n 0, 1) := by decide +kernel
theorem dL_areCopies_278 : decode cL_areCopies 278 = .ok (.iload 8, 2) := by decide +kernel
theorem dL_areCopies_280 : decode cL_areCopies 280 = .ok (.invokevirtual 70, 3) := by decide +kernel
theorem dL_areCopies_283 : decode cL_areCopies 283 = .ok (.iload 10, 2) := by decide +kernel
theorem dL_areCopies_285 : decode cL_areCopies 285 = .ok (.if_icmp .ne 7, 3) := by decide +kernel
theorem dL_areCopies_288 : decode cL_areCopies 288 = .ok (.iconst 1, 1) := by decide +kernel
theorem dL_areCopies_289 : decode cL_areCopies 289 = .ok (.goto 4, 3) := by decide +kernel
theorem dL_areCopies_292 : decode cL_areCopies 292 = .ok (.iconst 0, 1) := by decide +kernel
theorem dL_areCopies_293 : decode cL_areCopies 293 = .ok (.istore 7, 2) := by decide +kernel
theorem dL_areCopies_295 : decode cL_areCopies 295 = .ok (.iinc 8 1, 3) := by decide +kernel
theorem dL_areCopies_298 : decode cL_areCopies 298 = .ok (.goto (-272), 3) := by decide +kernel
theorem dL_areCopies_301 : decode cL_areCopies 301 = .ok (.iload 4, 2) := by decide +kernel
theorem dL_areCopies_303 : decode cL_areCopies 303 = .ok (.bipush 12, 2) := by decide +kernel
theorem dL_areCopies_305 : decode cL_areCopies 305 = .ok (.irem, 1) := by decide +kernel
theorem dL_areCopies_306 : decode cL_areCopies 306 = .ok (.istore 8, 2) := by decide +kernel
theorem dL_areCopies_308 : decode cL_areCopies 308 = .ok (.iconst 1, 1) := by decide +kernel
theorem dL_areCopies_309 : decode cL_areCopies 309 = .ok (.iload 4, 2) := by decide +kernel
theorem dL_areCopies_311 : decode cL_areCopies 311 = .ok (.bipush 12, 2) := by decide +kernel
theorem dL_areCopies_313 : decode cL_areCopies 313 = .ok (.idiv, 1) := by decide +kernel
theorem dL_areCopies_314 : decode cL_areCopies 314 = .ok (.iconst 3, 1) := by decide +kernel
theorem dL_areCopies_315 : decode cL_areCopies 315 = .ok (.irem, 1) := by decide +kernel
theorem dL_areCopies_316 : decode cL_areCopies 316 = .ok (.iadd, 1) := by decide +kernel
theorem dL_areCopies_317 : decode cL_areCopies 317 = .ok (.istore 9, 2) := by decide +kernel
theorem dL_areCopies_319 : decode cL_areCopies 319 = .ok (.iconst 0, 1) := by decide +kernel
theorem dL_areCopies_320 : decode cL_areCopies 320 = .ok (.istore 10, 2) := by decide +kernel
theorem dL_areCopies_322 : decode cL_areCopies 322 = .ok (.iconst 0, 1) := by decide +kernel
theorem dL_areCopies_323 : decode cL_areCopies 323 = .ok (.istore 11, 2) := by decide +kernel
theorem dL_areCopies_325 : decode cL_areCopies 325 = .ok (.iconst 0, 1) := by decide +kernel
theorem dL_areCopies_326 : decode cL_areCopies 326 = .ok (.istore 12, 2) := by decide +kernel
theorem dL_areCopies_328 : decode cL_areCopies 328 = .ok (.iload 12, 2) := by decide +kernel
theorem dL_areCopies_330 : decode cL_areCopies 330 = .ok (.aload_n 3, 1) := by decide +kernel
theorem dL_areCopies_331 : decode cL_areCopies 331 = .ok (.iconst 0, 1) := by decide +kernel
theorem dL_areCopies_332 : decode cL_areCopies 332 = .ok (.iaload, 1) := by decide +kernel
theorem dL_areCopies_333 : decode cL_areCopies 333 = .ok (.if_icmp .ge 89, 3) := by decide +kernel
theorem dL_areCopies_336 : decode cL_areCopies 336 = .ok (.iload 7, 2) := by decide +kernel
theorem dL_areCopies_338 : decode cL_areCopies 338 = .ok (.ifCond .eq 84, 3) := by decide +kernel
theorem dL_areCopies_341 : decode cL_areCopies 341 = .ok (.aload_n 1, 1) := by decide +kernel
theorem dL_areCopies_342 : decode cL_areCopies 342 = .ok (.iload 12, 2) := by decide +kernel
theorem dL_areCopies_344 : decode cL_areCopies 344 = .ok (.laload, 1) := by decide +kernel
theorem dL_areCopies_345 : decode cL_areCopies 345 = .ok (.iload 8, 2) := by decide +kernel
theorem dL_areCopies_347 : decode cL_areCopies 347 = .ok (.invokestatic 13, 3) := by decide +kernel
theorem dL_areCopies_350 : decode cL_areCopies 350 = .ok (.iload 9, 2) := by decide +kernel
theorem dL_areCopies_352 : decode cL_areCopies 352 = .ok (.if_icmp .ne 7, 3) := by decide +kernel
theorem dL_areCopies_355 : decode cL_areCopies 355 = .ok (.iconst 1, 1) := by decide +kernel
theorem dL_areCopies_356 : decode cL_areCopies 356 = .ok (.goto 4, 3) := by decide +kernel
theorem dL_areCopies_359 : decode cL_areCopies 359 = .ok (.iconst 0, 1) := by decide +kernel
theorem dL_areCopies_360 : decode cL_areCopies 360 = .ok (.istore 13, 2) := by decide +kernel
theorem dL_areCopies_362 : decode cL_areCopies 362 = .ok (.iload 10, 2) := by decide +kernel
theorem dL_areCopies_364 : decode cL_areCopies 364 = .ok (.iload 13, 2) := by decide +kernel
theorem dL_areCopies_366 : decode cL_areCopies 366 = .ok (.ifCond .eq 7, 3) := by decide +kernel
theorem dL_areCopies_369 : decode cL_areCopies 369 = .ok (.iconst 1, 1) := by decide +kernel
theorem dL_areCopies_370 : decode cL_areCopies 370 = .ok (.goto 4, 3) := by decide +kernel
theorem dL_areCopies_373 : decode cL_areCopies 373 = .ok (.iconst 0, 1) := by decide +kernel
theorem dL_areCopies_374 : decode cL_areCopies 374 = .ok (.iadd, 1) := by decide +kernel
theorem dL_areCopies_375 : decode cL_areCopies 375 = .ok (.istore 10, 2) := by decide +kernel
theorem dL_areCopies_377 : decode cL_areCopies 377 = .ok (.iload 11, 2) := by decide +kernel
theorem dL_areCopies_379 : decode cL_areCopies 379 = .ok (.iload 13, 2) := by decide +kernel
theorem dL_areCopies_381 : decode cL_areCopies 381 = .ok (.ifCond .eq 31, 3) := by decide +kernel
theorem dL_areCopies_384 : decode cL_areCopies 384 = .ok (.iload 12, 2) := by decide +kernel
theorem dL_areCopies_386 : decode cL_areCopies 386 = .ok (.ifCond .eq 22, 3) := by decide +kernel
theorem dL_areCopies_389 : decode cL_areCopies 389 = .ok (.aload_n 1, 1) := by decide +kernel
theorem dL_areCopies_390 : decode cL_areCopies 390 = .ok (.aload_n 1, 1) := by decide +kernel
theorem dL_areCopies_391 : decode cL_areCopies 391 = .ok (.aload_n 2, 1) := by decide +kernel
theorem dL_areCopies_392 : decode cL_areCopies 392 = .ok (.iload 12, 2) := by decide +kernel
theorem dL_areCopies_394 : decode cL_areCopies 394 = .ok (.invokestatic 41, 3) := by decide +kernel
theorem dL_areCopies_397 : decode cL_areCopies 397 = .ok (.laload, 1) := by decide +kernel
theorem dL_areCopies_398 : decode cL_areCopies 398 = .ok (.iload 8, 2) := by decide +kernel
theorem dL_areCopies_400 : decode cL_areCopies 400 = .ok (.invokestatic 13, 3) := by decide +kernel
theorem dL_areCopies_403 : decode cL_areCopies 403 = .ok (.iload 9, 2) := by decide +kernel
theorem dL_areCopies_405 : decode cL_areCopies 405 = .ok (.if_icmp .eq 7, 3) := by decide +kernel
theorem dL_areCopies_408 : decode cL_areCopies 408 = .ok (.iconst 1, 1) := by decide +kernel
theorem dL_areCopies_409 : decode cL_areCopies 409 = .ok (.goto 4, 3) := by decide +kernel
theorem dL_areCopies_412 : decode cL_areCopies 412 = .ok (.iconst 0, 1) := by decide +kernel
theorem dL_areCopies_413 : decode cL_areCopies 413 = .ok (.iadd, 1) := by decide +kernel
theorem dL_areCopies_414 : decode cL_areCopies 414 = .ok (.istore 11, 2) := by decide +kernel
theorem dL_areCopies_416 : decode cL_areCopies 416 = .ok (.iinc 12 1, 3) := by decide +kernel
theorem dL_areCopies_419 : decode cL_areCopies 419 = .ok (.goto (-91), 3) := by decide +kernel
theorem dL_areCopies_422 : decode cL_areCopies 422 = .ok (.iload 7, 2) := by decide +kernel
theorem dL_areCopies_424 : decode cL_areCopies 424 = .ok (.ifCond .eq 81, 3) := by decide +kernel
theorem dL_areCopies_427 : decode cL_areCopies 427 = .ok (.aload_n 0, 1) := by decide +kernel
theorem dL_areCopies_428 : decode cL_areCopies 428 = .ok (.invokevirtual 72, 3) := by decide +kernel
theorem dL_areCopies_431 : decode cL_areCopies 431 = .ok (.iload 6, 2) := by decide +kernel
theorem dL_areCopies_433 : decode cL_areCopies 433 = .ok (.if_icmp .ne 72, 3) := by decide +kernel
theorem dL_areCopies_436 : decode cL_areCopies 436 = .ok (.aload_n 0, 1) := by decide +kernel
theorem dL_areCopies_437 : decode cL_areCopies 437 = .ok (.invokevirtual 75, 3) := by decide +kernel
theorem dL_areCopies_440 : decode cL_areCopies 440 = .ok (.iload 5, 2) := by decide +kernel
theorem dL_areCopies_442 : decode cL_areCopies 442 = .ok (.if_icmp .ne 63, 3) := by decide +kernel
theorem dL_areCopies_445 : decode cL_areCopies 445 = .ok (.aload_n 0, 1) := by decide +kernel
theorem dL_areCopies_446 : decode cL_areCopies 446 = .ok (.iload 8, 2) := by decide +kernel
theorem dL_areCopies_448 : decode cL_areCopies 448 = .ok (.invokestatic 45, 3) := by decide +kernel
theorem dL_areCopies_451 : decode cL_areCopies 451 = .ok (.iload 9, 2) := by decide +kernel
theorem dL_areCopies_453 : decode cL_areCopies 453 = .ok (.invokevirtual 78, 3) := by decide +kernel
theorem dL_areCopies_456 : decode cL_areCopies 456 = .ok (.iload 10, 2) := by decide +kernel
theorem dL_areCopies_458 : decode cL_areCopies 458 = .ok (.if_icmp .ne 47, 3) := by decide +kernel
theorem dL_areCopies_461 : decode cL_areCopies 461 = .ok (.aload_n 0, 1) := by decide +kernel
theorem dL_areCopies_462 : decode cL_areCopies 462 = .ok (.iload 8, 2) := by decide +kernel
theorem dL_areCopies_464 : decode cL_areCopies 464 = .ok (.invokestatic 45, 3) := by decide +kernel
theorem dL_areCopies_467 : decode cL_areCopies 467 = .ok (.iload 9, 2) := by decide +kernel
theorem dL_areCopies_469 : decode cL_areCopies 469 = .ok (.invokevirtual 81, 3) := by decide +kernel
theorem dL_areCopies_472 : decode cL_areCopies 472 = .ok (.iload 11, 2) := by decide +kernel
theorem dL_areCopies_474 : decode cL_areCopies 474 = .ok (.if_icmp .ne 31, 3) := by decide +kernel
theorem dL_areCopies_477 : decode cL_areCopies 477 = .ok (.aload_n 0, 1) := by decide +kernel
theorem dL_areCopies_478 : decode cL_areCopies 478 = .ok (.iload 4, 2) := by decide +kernel
theorem dL_areCopies_480 : decode cL_areCopies 480 = .ok (.aload_n 3, 1) := by decide +kernel
theorem dL_areCopies_481 : decode cL_areCopies 481 = .ok (.iconst 0, 1) := by decide +kernel
theorem dL_areCopies_482 : decode cL_areCopies 482 = .ok (.iaload, 1) := by decide +kernel
theorem dL_areCopies_483 : decode cL_areCopies 483 = .ok (.irem, 1) := by decide +kernel
theorem dL_areCopies_484 : decode cL_areCopies 484 = .ok (.iconst 1, 1) := by decide +kernel
theorem dL_areCopies_485 : decode cL_areCopies 485 = .ok (.invokevirtual 48, 3) := by decide +kernel
theorem dL_areCopies_488 : decode cL_areCopies 488 = .ok (.ifCond .ne 17, 3) := by decide +kernel
theorem dL_areCopies_491 : decode cL_areCopies 491 = .ok (.aload_n 0, 1) := by decide +kernel
theorem dL_areCopies_492 : decode cL_areCopies 492 = .ok (.iconst 1, 1) := by decide +kernel
theorem dL_areCopies_493 : decode cL_areCopies 493 = .ok (.iload 9, 2) := by decide +kernel
theorem dL_areCopies_495 : decode cL_areCopies 495 = .ok (.invokevirtual 78, 3) := by decide +kernel
theorem dL_areCopies_498 : decode cL_areCopies 498 = .ok (.ifCond .ne 7, 3) := by decide +kernel
theorem dL_areCopies_501 : decode cL_areCopies 501 = .ok (.iconst 1, 1) := by decide +kernel
theorem dL_areCopies_502 : decode cL_areCopies 502 = .ok (.goto 4, 3) := by decide +kernel
theorem dL_areCopies_505 : decode cL_areCopies 505 = .ok (.iconst 0, 1) := by decide +kernel
theorem dL_areCopies_506 : decode cL_areCopies 506 = .ok (.ireturn, 1) := by decide +kernel
set_option maxRecDepth 20000 in
theorem ggL_areLoans_X5_day : GoodIn wsL_areLoans wsX5_day := goodIn_r _ [5, 6, 117, 118, 119, 120, 121, 122, 123] (by decide +kernel) (by decide +kernel)
set_option maxRecDepth 20000 in
theorem gL_areLoans_X5_day : GoodIn wsL_areLoans (wsV RL 84 RX5 yX5_day wsX5_day) := goodIn_app (goodIn_of _ (by decide +kernel)) ggL_areLoans_X5_day
set_option maxRecDepth 20000 in
theorem ggL_areLoans_X5_letters : GoodIn wsL_areLoans wsX5_letters := goodIn_r _ [10, 11, 12, 13, 14, 15, 16, 17, 117, 118, 119, 120, 121, 122, 123, 124, 125, 126] (by decide +kernel) (by decide +kernel)
set_option maxRecDepth 20000 in
theorem gL_areLoans_X5_letters : GoodIn wsL_areLoans (wsV RL 87 RX5 yX5_letters wsX5_letters) := goodIn_app (goodIn_of _ (by decide +kernel)) ggL_areLoans_X5_letters
set_option maxRecDepth 20000 in
theorem ggL_areLoans_X5_loans : GoodIn wsL_areLoans wsX5_loans := goodIn_r _ [21, 22, 12, 13, 14, 15, 16, 17, 117, 118, 119, 120, 121, 122, 123, 124, 125, 126] (by decide +kernel) (by decide +kernel)
set_option maxRecDepth 20000 in
theorem gL_areLoans_X5_loans : GoodIn wsL_areLoans (wsV RL 90 RX5 yX5_loans wsX5_loans) := goodIn_app (goodIn_of _ (by decide +kernel)) ggL_areLoans_X5_loans
set_option maxRecDepth 20000 in
theorem ggL_areLoans_X5_letter : GoodIn wsL_areLoans wsX5_letter := goodIn_ca (goodIn_r _ [26, 11, 27, 28, 29, 30, 31, 32, 33, 4, 34, 35, 36, 12, 13, 14, 15, 16, 17, 37, 38, 39, 40, 41, 42, 43, 44, 45, 46, 47, 48, 49, 50, 51, 52, 53, 117, 118, 119, 120, 121, 122, 123, 127, 128, 129, 124, 125, 126] (by decide +kernel) (by decide +kernel)) (goodIn_sub (fun _ h => List.mem_cons_of_mem _ (List.mem_append_right _ h)) (by decide +kernel))
set_option maxRecDepth 20000 in
theorem gL_areLoans_X5_letter : GoodIn wsL_areLoans (wsV RL 93 RX5 yX5_letter wsX5_letter) := goodIn_app (goodIn_of _ (by decide +kernel)) ggL_areLoans_X5_letter
set_option maxRecDepth 20000 in
theorem ggL_areLoans_X5_hasLetter : GoodIn wsL_areLoans wsX5_hasLetter := goodIn_ca (goodIn_r _ [57, 58, 59, 60, 4, 61, 35, 36, 62, 63, 12, 13, 14, 15, 16, 17, 37, 38, 39, 40, 41, 42, 43, 44, 45, 46, 47, 48, 49, 50, 51, 52, 53, 31, 32, 33, 34, 11, 64, 65, 66, 67, 68, 69, 117, 118, 119, 120, 121, 122, 123, 124, 125, 126, 130, 131, 132, 133] (by decide +kernel) (by decide +kernel)) (goodIn_sub (fun _ h => List.mem_cons_of_mem _ (List.mem_append_right _ h)) (by decide +kernel))
set_option maxRecDepth 20000 in
theorem gL_areLoans_X5_hasLetter : GoodIn wsL_areLoans (wsV RL 96 RX5 yX5_hasLetter wsX5_hasLetter) := goodIn_app (goodIn_of _ (by decide +kernel)) ggL_areLoans_X5_hasLetter
set_option maxRecDepth 20000 in
theorem ggL_areLoans_X5_isBack : GoodIn wsL_areLoans wsX5_isBack := goodIn_ca (goodIn_r _ [73, 74, 75, 76, 77, 4, 78, 35, 36, 22, 79, 12, 13, 14, 15, 16, 17, 37, 38, 39, 40, 41, 42, 43, 44, 45, 46, 47, 48, 49, 50, 51, 52, 53, 134, 135, 136, 137, 138, 139, 117, 118, 119, 120, 121, 122, 123, 124, 125, 126] (by decide +kernel) (by decide +kernel)) (goodIn_sub (fun _ h => List.mem_cons_of_mem _ (List.mem_append_right _ h)) (by decide +kernel))
set_option maxRecDepth 20000 in
theorem gL_areLoans_X5_isBack : GoodIn wsL_areLoans (wsV RL 100 RX5 yX5_isBack wsX5_isBack) := goodIn_app (goodIn_of _ (by decide +kernel)) ggL_areLoans_X5_isBack
set_option maxRecDepth 20000 in
theorem ggL_areLoans_X5_late : GoodIn wsL_areLoans wsX5_late := goodIn_ca (goodIn_r _ [83, 74, 84, 6, 75, 76, 77, 4, 78, 35, 36, 22, 79, 12, 13, 14, 15, 16, 17, 37, 38, 39, 40, 41, 42, 43, 44, 45, 46, 47, 48, 49, 50, 51, 52, 53, 85, 86, 87, 88, 89, 90, 91, 92, 93, 94, 134, 135, 136, 137, 138, 139, 117, 118, 119, 120, 121, 122, 123, 124, 125, 126] (by decide +kernel) (by decide +kernel)) (goodIn_sub (fun _ h => List.mem_cons_of_mem _ (List.mem_append_right _ h)) (by decide +kernel))
set_option maxRecDepth 20000 in
theorem gL_areLoans_X5_late : GoodIn wsL_areLoans (wsV RL 104 RX5 yX5_late wsX5_late) := goodIn_app (goodIn_of _ (by decide +kernel)) ggL_areLoans_X5_late
set_option maxRecDepth 20000 in
theorem ggL_areLoans_L_late : GoodIn wsL_areLoans wsL_late := goodIn_r _ [98] (by decide +kernel) (by decide +kernel)
set_option maxRecDepth 20000 in
theorem gL_areLoans_L_late : GoodIn wsL_areLoans (va_wsS RL 107 yL_late wsL_late) := goodIn_app (goodIn_of _ (by decide +kernel)) ggL_areLoans_L_late
set_option maxRecDepth 20000 in
theorem ggL_areLoans_X5_slips : GoodIn wsL_areLoans wsX5_slips := goodIn_ca (goodIn_r _ [102, 103, 104, 105, 4, 106, 35, 36, 117, 118, 119, 120, 121, 122, 123] (by decide +kernel) (by decide +kernel)) (goodIn_sub (fun _ h => List.mem_cons_of_mem _ (List.mem_append_right _ h)) (by decide +kernel))
set_option maxRecDepth 20000 in
theorem gL_areLoans_X5_slips : GoodIn wsL_areLoans (wsV RL 110 RX5 yX5_slips wsX5_slips) := goodIn_app (goodIn_of _ (by decide +kernel)) ggL_areLoans_X5_slips
set_option maxRecDepth 20000 in
theorem ggL_areLoans_X5_coins : GoodIn wsL_areLoans wsX5_coins := goodIn_ca (goodIn_r _ [110, 111, 58, 59, 60, 4, 61, 35, 36, 62, 63, 12, 13, 14, 15, 16, 17, 37, 38, 39, 40, 41, 42, 43, 44, 45, 46, 47, 48, 49, 50, 51, 52, 53, 130, 131, 132, 133, 117, 118, 119, 120, 121, 122, 123, 124, 125, 126] (by decide +kernel) (by decide +kernel)) (goodIn_sub (fun _ h => List.mem_cons_of_mem _ (List.mem_append_right _ h)) (by decide +kernel))
set_option maxRecDepth 20000 in
theorem gL_areLoans_X5_coins : GoodIn wsL_areLoans (wsV RL 113 RX5 yX5_coins wsX5_coins) := goodIn_app (goodIn_of _ (by decide +kernel)) ggL_areLoans_X5_coins
set_option maxRecDepth 20000 in
theorem ggL_areLoans_X5_laidDown : GoodIn wsL_areLoans wsX5_laidDown := goodIn_ca (goodIn_r _ [115, 116, 58, 59, 60, 4, 61, 35, 36, 62, 63, 12, 13, 14, 15, 16, 17, 37, 38, 39, 40, 41, 42, 43, 44, 45, 46, 47, 48, 49, 50, 51, 52, 53, 130, 131, 132, 133, 117, 118, 119, 120, 121, 122, 123, 124, 125, 126] (by decide +kernel) (by decide +kernel)) (goodIn_sub (fun _ h => List.mem_cons_of_mem _ (List.mem_append_right _ h)) (by decide +kernel))
set_option maxRecDepth 20000 in
theorem gL_areLoans_X5_laidDown : GoodIn wsL_areLoans (wsV RL 116 RX5 yX5_laidDown wsX5_laidDown) := goodIn_app (goodIn_of _ (by decide +kernel)) ggL_areLoans_X5_laidDown
theorem dL_areLoans_0 : decode cL_areLoans 0 = .ok (.aload_n 0, 1) := by decide +kernel
theorem dL_areLoans_1 : decode cL_areLoans 1 = .ok (.invokevirtual 84, 3) := by decide +kernel
theorem dL_areLoans_4 : decode cL_areLoans 4 = .ok (.aload 6, 2) := by decide +kernel
theorem dL_areLoans_6 : decode cL_areLoans 6 = .ok (.iconst 2, 1) := by decide +kernel
theorem dL_areLoans_7 : decode cL_areLoans 7 = .ok (.iaload, 1) := by decide +kernel
theorem dL_areLoans_8 : decode cL_areLoans 8 = .ok (.if_icmp .ne 29, 3) := by decide +kernel
theorem dL_areLoans_11 : decode cL_areLoans 11 = .ok (.aload_n 0, 1) := by decide +kernel
theorem dL_areLoans_12 : decode cL_areLoans 12 = .ok (.invokevirtual 87, 3) := by decide +kernel
theorem dL_areLoans_15 : decode cL_areLoans 15 = .ok (.aload 6, 2) := by decide +kernel
theorem dL_areLoans_17 : decode cL_areLoans 17 = .ok (.iconst 3, 1) := by decide +kernel
theorem dL_areLoans_18 : decode cL_areLoans 18 = .ok (.iaload, 1) := by decide +kernel
theorem dL_areLoans_19 : decode cL_areLoans 19 = .ok (.if_icmp .ne 18, 3) := by decide +kernel
theorem dL_areLoans_22 : decode cL_areLoans 22 = .ok (.aload_n 0, 1) := by decide +kernel
theorem dL_areLoans_23 : decode cL_areLoans 23 = .ok (.invokevirtual 90, 3) := by decide +kernel
theorem dL_areLoans_26 : decode cL_areLoans 26 = .ok (.aload 6, 2) := by decide +kernel
theorem dL_areLoans_28 : decode cL_areLoans 28 = .ok (.iconst 4, 1) := by decide +kernel
theorem dL_areLoans_29 : decode cL_areLoans 29 = .ok (.iaload, 1) := by decide +kernel
theorem dL_areLoans_30 : decode cL_areLoans 30 = .ok (.if_icmp .ne 7, 3) := by decide +kernel
theorem dL_areLoans_33 : decode cL_areLoans 33 = .ok (.iconst 1, 1) := by decide +kernel
theorem dL_areLoans_34 : decode cL_areLoans 34 = .ok (.goto 4, 3) := by decide +kernel
theorem dL_areLoans_37 : decode cL_areLoans 37 = .ok (.iconst 0, 1) := by decide +kernel
theorem dL_areLoans_38 : decode cL_areLoans 38 = .ok (.istore 8, 2) := by decide +kernel
theorem dL_areLoans_40 : decode cL_areLoans 40 = .ok (.iconst 0, 1) := by decide +kernel
theorem dL_areLoans_41 : decode cL_areLoans 41 = .ok (.istore 9, 2) := by decide +kernel
theorem dL_areLoans_43 : decode cL_areLoans 43 = .ok (.iload 9, 2) := by decide +kernel
theorem dL_areLoans_45 : decode cL_areLoans 45 = .ok (.aload 6, 2) := by decide +kernel
theorem dL_areLoans_47 : decode cL_areLoans 47 = .ok (.iconst 3, 1) := by decide +kernel
theorem dL_areLoans_48 : decode cL_areLoans 48 = .ok (.iaload, 1) := by decide +kernel
theorem dL_areLoans_49 : decode cL_areLoans 49 = .ok (.if_icmp .ge 74, 3) := by decide +kernel
theorem dL_areLoans_52 : decode cL_areLoans 52 = .ok (.iload 8, 2) := by decide +kernel
theorem dL_areLoans_54 : decode cL_areLoans 54 = .ok (.ifCond .eq 69, 3) := by decide +kernel
theorem dL_areLoans_57 : decode cL_areLoans 57 = .ok (.aload_n 0, 1) := by decide +kernel
theorem dL_areLoans_58 : decode cL_areLoans 58 = .ok (.iload 9, 2) := by decide +kernel
theorem dL_areLoans_60 : decode cL_areLoans 60 = .ok (.invokevirtual 93, 3) := by decide +kernel
theorem dL_areLoans_63 : decode cL_areLoans 63 = .ok (.aload_n 1, 1) := by decide +kernel
theorem dL_areLoans_64 : decode cL_areLoans 64 = .ok (.iload 9, 2) := by decide +kernel
theorem dL_areLoans_66 : decode cL_areLoans 66 = .ok (.iaload, 1) := by decide +kernel
theorem dL_areLoans_67 : decode cL_areLoans 67 = .ok (.if_icmp .ne 47, 3) := by decide +kernel
theorem dL_areLoans_70 : decode cL_areLoans 70 = .ok (.aload_n 0, 1) := by decide +kernel
theorem dL_areLoans_71 : decode cL_areLoans 71 = .ok (.iload 9, 2) := by decide +kernel
theorem dL_areLoans_73 : decode cL_areLoans 73 = .ok (.iload 7, 2) := by decide +kernel
theorem dL_areLoans_75 : decode cL_areLoans 75 = .ok (.iadd, 1) := by decide +kernel
theorem dL_areLoans_76 : decode cL_areLoans 76 = .ok (.iconst 5, 1) := by decide +kernel
theorem dL_areLoans_77 : decode cL_areLoans 77 = .ok (.irem, 1) := by decide +kernel
theorem dL_areLoans_78 : decode cL_areLoans 78 = .ok (.iload 9, 2) := by decide +kernel
theorem dL_areLoans_80 : decode cL_areLoans 80 = .ok (.invokevirtual 96, 3) := by decide +kernel
theorem dL_areLoans_83 : decode cL_areLoans 83 = .ok (.aload_n 2, 1) := by decide +kernel
theorem dL_areLoans_84 : decode cL_areLoans 84 = .ok (.iload 9, 2) := by decide +kernel
theorem dL_areLoans_86 : decode cL_areLoans 86 = .ok (.iload 7, 2) := by decide +kernel
theorem dL_areLoans_88 : decode cL_areLoans 88 = .ok (.iadd, 1) := by decide +kernel
theorem dL_areLoans_89 : decode cL_areLoans 89 = .ok (.iconst 5, 1) := by decide +kernel
theorem dL_areLoans_90 : decode cL_areLoans 90 = .ok (.irem, 1) := by decide +kernel
theorem dL_areLoans_91 : decode cL_areLoans 91 = .ok (.laload, 1) := by decide +kernel
