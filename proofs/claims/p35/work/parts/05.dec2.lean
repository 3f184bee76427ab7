theorem dX5_family_2 : decode cX5_family 2 = .ok (.invokevirtual 80, 3) := by decide +kernel
theorem dX5_family_5 : decode cX5_family 5 = .ok (.getfield 127, 3) := by decide +kernel
theorem dX5_family_8 : decode cX5_family 8 = .ok (.ireturn, 1) := by decide +kernel
set_option maxRecDepth 20000 in
theorem ggX5_familyByErrors_X5_findCopy : GoodIn wsX5_familyByErrors wsX5_findCopy := goodIn_ca (goodIn_r _ [8, 9, 10, 1, 3, 11, 12, 13, 14, 15, 16, 17, 18, 19, 20, 21, 22, 23, 24, 25, 26, 27, 28, 29, 30, 31, 32, 33, 62, 63, 64, 65, 66, 67, 68, 69, 70, 71] (by decide +kernel) (by decide +kernel)) (goodIn_sub (fun _ h => List.mem_cons_of_mem _ (List.mem_append_right _ h)) (by decide +kernel))
set_option maxRecDepth 20000 in
theorem gX5_familyByErrors_X5_findCopy : GoodIn wsX5_familyByErrors (wsV RX5 80 RX5 yX5_findCopy wsX5_findCopy) := goodIn_app (goodIn_of _ (by decide +kernel)) ggX5_familyByErrors_X5_findCopy
set_option maxRecDepth 20000 in
theorem ggX5_familyByErrors_X5_setOf : GoodIn wsX5_familyByErrors wsX5_setOf := goodIn_r _ [36, 37, 72, 73, 74, 75, 76, 77, 78] (by decide +kernel) (by decide +kernel)
set_option maxRecDepth 20000 in
theorem gX5_familyByErrors_X5_setOf : GoodIn wsX5_familyByErrors (va_wsS RX5 240 yX5_setOf wsX5_setOf) := goodIn_app (goodIn_of _ (by decide +kernel)) ggX5_familyByErrors_X5_setOf
set_option maxRecDepth 20000 in
theorem ggX5_familyByErrors_Jx4a65c_size_8abf5 : GoodIn wsX5_familyByErrors wsJx4a65c_size_8abf5 := goodIn_r _ [15, 16, 69, 70, 71] (by decide +kernel) (by decide +kernel)
set_option maxRecDepth 20000 in
theorem gX5_familyByErrors_Jx4a65c_size_8abf5 : GoodIn wsX5_familyByErrors (wsV RX5 97 RJx4a65c yJx4a65c_size_8abf5 wsJx4a65c_size_8abf5) := goodIn_app (goodIn_of _ (by decide +kernel)) ggX5_familyByErrors_Jx4a65c_size_8abf5
set_option maxRecDepth 20000 in
theorem ggX5_familyByErrors_X5_lowestIn : GoodIn wsX5_familyByErrors wsX5_lowestIn := goodIn_r _ [41, 1, 3, 11, 12, 13, 14, 15, 16, 17, 18, 19, 20, 21, 22, 23, 24, 25, 26, 27, 28, 29, 30, 31, 32, 33, 34, 35, 7, 36, 37, 62, 63, 64, 65, 66, 67, 68, 69, 70, 71, 72, 73, 74, 75, 76, 77, 78] (by decide +kernel) (by decide +kernel)
set_option maxRecDepth 20000 in
theorem gX5_familyByErrors_X5_lowestIn : GoodIn wsX5_familyByErrors (wsV RX5 246 RX5 yX5_lowestIn wsX5_lowestIn) := goodIn_app (goodIn_of _ (by decide +kernel)) ggX5_familyByErrors_X5_lowestIn
set_option maxRecDepth 20000 in
theorem ggX5_familyByErrors_Jx4a65c_get_915e3 : GoodIn wsX5_familyByErrors wsJx4a65c_get_915e3 := goodIn_r _ [20, 16, 21, 22, 23, 24, 25, 26, 27, 28, 29, 30, 31, 14, 32, 33, 69, 70, 71] (by decide +kernel) (by decide +kernel)
set_option maxRecDepth 20000 in
theorem gX5_familyByErrors_Jx4a65c_get_915e3 : GoodIn wsX5_familyByErrors (wsV RX5 162 RJx4a65c yJx4a65c_get_915e3 wsJx4a65c_get_915e3) := goodIn_app (goodIn_of _ (by decide +kernel)) ggX5_familyByErrors_Jx4a65c_get_915e3
set_option maxRecDepth 20000 in
theorem ggX5_familyByErrors_X5_kinByErrors : GoodIn wsX5_familyByErrors wsX5_kinByErrors := goodIn_r _ [45, 46, 47, 48, 49, 7, 50, 1, 3, 11, 12, 13, 14, 15, 16, 17, 18, 19, 20, 21, 22, 23, 24, 25, 26, 27, 28, 29, 30, 31, 32, 33, 34, 35, 36, 37, 72, 73, 74, 75, 76, 77, 78, 62, 63, 64, 65, 66, 67, 68, 69, 70, 71] (by decide +kernel) (by decide +kernel)
set_option maxRecDepth 20000 in
theorem gX5_familyByErrors_X5_kinByErrors : GoodIn wsX5_familyByErrors (wsV RX5 250 RX5 yX5_kinByErrors wsX5_kinByErrors) := goodIn_app (goodIn_of _ (by decide +kernel)) ggX5_familyByErrors_X5_kinByErrors
set_option maxRecDepth 20000 in
theorem ggX5_familyByErrors_X5_kinByModels : GoodIn wsX5_familyByErrors wsX5_kinByModels := goodIn_r _ [54, 1, 3, 55, 56, 57, 58, 59, 60, 61, 34, 35, 7, 36, 37, 11, 12, 13, 14, 15, 16, 17, 18, 19, 20, 21, 22, 23, 24, 25, 26, 27, 28, 29, 30, 31, 32, 33, 62, 63, 64, 65, 66, 67, 68, 72, 73, 74, 75, 76, 77, 78, 69, 70, 71] (by decide +kernel) (by decide +kernel)
set_option maxRecDepth 20000 in
theorem gX5_familyByErrors_X5_kinByModels : GoodIn wsX5_familyByErrors (wsV RX5 253 RX5 yX5_kinByModels wsX5_kinByModels) := goodIn_app (goodIn_of _ (by decide +kernel)) ggX5_familyByErrors_X5_kinByModels
theorem dX5_familyByErrors_0 : decode cX5_familyByErrors 0 = .ok (.aload_n 0, 1) := by decide +kernel
theorem dX5_familyByErrors_1 : decode cX5_familyByErrors 1 = .ok (.iload_n 1, 1) := by decide +kernel
theorem dX5_familyByErrors_2 : decode cX5_familyByErrors 2 = .ok (.invokevirtual 80, 3) := by decide +kernel
theorem dX5_familyByErrors_5 : decode cX5_familyByErrors 5 = .ok (.invokestatic 240, 3) := by decide +kernel
theorem dX5_familyByErrors_8 : decode cX5_familyByErrors 8 = .ok (.lstore_n 2, 1) := by decide +kernel
theorem dX5_familyByErrors_9 : decode cX5_familyByErrors 9 = .ok (.lconst 0, 1) := by decide +kernel
theorem dX5_familyByErrors_10 : decode cX5_familyByErrors 10 = .ok (.lstore 4, 2) := by decide +kernel
theorem dX5_familyByErrors_12 : decode cX5_familyByErrors 12 = .ok (.iconst 0, 1) := by decide +kernel
theorem dX5_familyByErrors_13 : decode cX5_familyByErrors 13 = .ok (.istore 6, 2) := by decide +kernel
theorem dX5_familyByErrors_15 : decode cX5_familyByErrors 15 = .ok (.iload 6, 2) := by decide +kernel
theorem dX5_familyByErrors_17 : decode cX5_familyByErrors 17 = .ok (.aload_n 0, 1) := by decide +kernel
theorem dX5_familyByErrors_18 : decode cX5_familyByErrors 18 = .ok (.getfield 16, 3) := by decide +kernel
theorem dX5_familyByErrors_21 : decode cX5_familyByErrors 21 = .ok (.invokevirtual 97, 3) := by decide +kernel
theorem dX5_familyByErrors_24 : decode cX5_familyByErrors 24 = .ok (.if_icmp .ge 83, 3) := by decide +kernel
theorem dX5_familyByErrors_27 : decode cX5_familyByErrors 27 = .ok (.aload_n 0, 1) := by decide +kernel
theorem dX5_familyByErrors_28 : decode cX5_familyByErrors 28 = .ok (.lload_n 2, 1) := by decide +kernel
theorem dX5_familyByErrors_29 : decode cX5_familyByErrors 29 = .ok (.lload 4, 2) := by decide +kernel
theorem dX5_familyByErrors_31 : decode cX5_familyByErrors 31 = .ok (.ldc2_w 244, 3) := by decide +kernel
theorem dX5_familyByErrors_34 : decode cX5_familyByErrors 34 = .ok (.lxor, 1) := by decide +kernel
theorem dX5_familyByErrors_35 : decode cX5_familyByErrors 35 = .ok (.land, 1) := by decide +kernel
theorem dX5_familyByErrors_36 : decode cX5_familyByErrors 36 = .ok (.invokevirtual 246, 3) := by decide +kernel
theorem dX5_familyByErrors_39 : decode cX5_familyByErrors 39 = .ok (.istore 7, 2) := by decide +kernel
theorem dX5_familyByErrors_41 : decode cX5_familyByErrors 41 = .ok (.iload 7, 2) := by decide +kernel
theorem dX5_familyByErrors_43 : decode cX5_familyByErrors 43 = .ok (.ifCond .lt 64, 3) := by decide +kernel
theorem dX5_familyByErrors_46 : decode cX5_familyByErrors 46 = .ok (.iload 7, 2) := by decide +kernel
theorem dX5_familyByErrors_48 : decode cX5_familyByErrors 48 = .ok (.aload_n 0, 1) := by decide +kernel
theorem dX5_familyByErrors_49 : decode cX5_familyByErrors 49 = .ok (.getfield 16, 3) := by decide +kernel
theorem dX5_familyByErrors_52 : decode cX5_familyByErrors 52 = .ok (.invokevirtual 97, 3) := by decide +kernel
theorem dX5_familyByErrors_55 : decode cX5_familyByErrors 55 = .ok (.if_icmp .lt 6, 3) := by decide +kernel
theorem dX5_familyByErrors_58 : decode cX5_familyByErrors 58 = .ok (.goto 49, 3) := by decide +kernel
theorem dX5_familyByErrors_61 : decode cX5_familyByErrors 61 = .ok (.aload_n 0, 1) := by decide +kernel
theorem dX5_familyByErrors_62 : decode cX5_familyByErrors 62 = .ok (.getfield 16, 3) := by decide +kernel
theorem dX5_familyByErrors_65 : decode cX5_familyByErrors 65 = .ok (.iload 7, 2) := by decide +kernel
theorem dX5_familyByErrors_67 : decode cX5_familyByErrors 67 = .ok (.invokevirtual 162, 3) := by decide +kernel
theorem dX5_familyByErrors_70 : decode cX5_familyByErrors 70 = .ok (.checkcast 49, 3) := by decide +kernel
theorem dX5_familyByErrors_73 : decode cX5_familyByErrors 73 = .ok (.astore 8, 2) := by decide +kernel
theorem dX5_familyByErrors_75 : decode cX5_familyByErrors 75 = .ok (.lload 4, 2) := by decide +kernel
theorem dX5_familyByErrors_77 : decode cX5_familyByErrors 77 = .ok (.aload 8, 2) := by decide +kernel
theorem dX5_familyByErrors_79 : decode cX5_familyByErrors 79 = .ok (.invokestatic 240, 3) := by decide +kernel
theorem dX5_familyByErrors_82 : decode cX5_familyByErrors 82 = .ok (.lor, 1) := by decide +kernel
theorem dX5_familyByErrors_83 : decode cX5_familyByErrors 83 = .ok (.lstore 4, 2) := by decide +kernel
theorem dX5_familyByErrors_85 : decode cX5_familyByErrors 85 = .ok (.lload_n 2, 1) := by decide +kernel
theorem dX5_familyByErrors_86 : decode cX5_familyByErrors 86 = .ok (.aload_n 0, 1) := by decide +kernel
theorem dX5_familyByErrors_87 : decode cX5_familyByErrors 87 = .ok (.aload 8, 2) := by decide +kernel
theorem dX5_familyByErrors_89 : decode cX5_familyByErrors 89 = .ok (.invokevirtual 250, 3) := by decide +kernel
theorem dX5_familyByErrors_92 : decode cX5_familyByErrors 92 = .ok (.aload_n 0, 1) := by decide +kernel
theorem dX5_familyByErrors_93 : decode cX5_familyByErrors 93 = .ok (.aload 8, 2) := by decide +kernel
theorem dX5_familyByErrors_95 : decode cX5_familyByErrors 95 = .ok (.invokevirtual 253, 3) := by decide +kernel
theorem dX5_familyByErrors_98 : decode cX5_familyByErrors 98 = .ok (.lor, 1) := by decide +kernel
theorem dX5_familyByErrors_99 : decode cX5_familyByErrors 99 = .ok (.lor, 1) := by decide +kernel
theorem dX5_familyByErrors_100 : decode cX5_familyByErrors 100 = .ok (.lstore_n 2, 1) := by decide +kernel
theorem dX5_familyByErrors_101 : decode cX5_familyByErrors 101 = .ok (.iinc 6 1, 3) := by decide +kernel
theorem dX5_familyByErrors_104 : decode cX5_familyByErrors 104 = .ok (.goto (-89), 3) := by decide +kernel
theorem dX5_familyByErrors_107 : decode cX5_familyByErrors 107 = .ok (.aload_n 0, 1) := by decide +kernel
theorem dX5_familyByErrors_108 : decode cX5_familyByErrors 108 = .ok (.lload_n 2, 1) := by decide +kernel
theorem dX5_familyByErrors_109 : decode cX5_familyByErrors 109 = .ok (.invokevirtual 246, 3) := by decide +kernel
theorem dX5_familyByErrors_112 : decode cX5_familyByErrors 112 = .ok (.ireturn, 1) := by decide +kernel
set_option maxRecDepth 20000 in
theorem ggX5_families_Jx4a65c_size_8abf5 : GoodIn wsX5_families wsJx4a65c_size_8abf5 := goodIn_r _ [8, 9, 41, 42, 43] (by decide +kernel) (by decide +kernel)
set_option maxRecDepth 20000 in
theorem gX5_families_Jx4a65c_size_8abf5 : GoodIn wsX5_families (wsV RX5 97 RJx4a65c yJx4a65c_size_8abf5 wsJx4a65c_size_8abf5) := goodIn_app (goodIn_of _ (by decide +kernel)) ggX5_families_Jx4a65c_size_8abf5
set_option maxRecDepth 20000 in
theorem ggX5_families_Jx4a65c_get_915e3 : GoodIn wsX5_families wsJx4a65c_get_915e3 := goodIn_r _ [13, 9, 14, 15, 16, 17, 18, 19, 20, 21, 22, 23, 24, 7, 25, 26, 41, 42, 43] (by decide +kernel) (by decide +kernel)
set_option maxRecDepth 20000 in
theorem gX5_families_Jx4a65c_get_915e3 : GoodIn wsX5_families (wsV RX5 162 RJx4a65c yJx4a65c_get_915e3 wsJx4a65c_get_915e3) := goodIn_app (goodIn_of _ (by decide +kernel)) ggX5_families_Jx4a65c_get_915e3
theorem dX5_families_0 : decode cX5_families 0 = .ok (.iconst 0, 1) := by decide +kernel
theorem dX5_families_1 : decode cX5_families 1 = .ok (.istore_n 1, 1) := by decide +kernel
theorem dX5_families_2 : decode cX5_families 2 = .ok (.iconst 0, 1) := by decide +kernel
theorem dX5_families_3 : decode cX5_families 3 = .ok (.istore_n 2, 1) := by decide +kernel
theorem dX5_families_4 : decode cX5_families 4 = .ok (.iload_n 2, 1) := by decide +kernel
theorem dX5_families_5 : decode cX5_families 5 = .ok (.aload_n 0, 1) := by decide +kernel
theorem dX5_families_6 : decode cX5_families 6 = .ok (.getfield 16, 3) := by decide +kernel
theorem dX5_families_9 : decode cX5_families 9 = .ok (.invokevirtual 97, 3) := by decide +kernel
theorem dX5_families_12 : decode cX5_families 12 = .ok (.if_icmp .ge 30, 3) := by decide +kernel
theorem dX5_families_15 : decode cX5_families 15 = .ok (.aload_n 0, 1) := by decide +kernel
theorem dX5_families_16 : decode cX5_families 16 = .ok (.getfield 16, 3) := by decide +kernel
theorem dX5_families_19 : decode cX5_families 19 = .ok (.iload_n 2, 1) := by decide +kernel
theorem dX5_families_20 : decode cX5_families 20 = .ok (.invokevirtual 162, 3) := by decide +kernel
theorem dX5_families_23 : decode cX5_families 23 = .ok (.checkcast 49, 3) := by decide +kernel
theorem dX5_families_26 : decode cX5_families 26 = .ok (.getfield 127, 3) := by decide +kernel
theorem dX5_families_29 : decode cX5_families 29 = .ok (.iload_n 2, 1) := by decide +kernel
theorem dX5_families_30 : decode cX5_families 30 = .ok (.if_icmp .ne 6, 3) := by decide +kernel
theorem dX5_families_33 : decode cX5_families 33 = .ok (.iinc 1 1, 3) := by decide +kernel
theorem dX5_families_36 : decode cX5_families 36 = .ok (.iinc 2 1, 3) := by decide +kernel
theorem dX5_families_39 : decode cX5_families 39 = .ok (.goto (-35), 3) := by decide +kernel
theorem dX5_families_42 : decode cX5_families 42 = .ok (.iload_n 1, 1) := by decide +kernel
theorem dX5_families_43 : decode cX5_families 43 = .ok (.ireturn, 1) := by decide +kernel
set_option maxRecDepth 20000 in
theorem ggX5_guess_X5_findCopy : GoodIn wsX5_guess wsX5_findCopy := goodIn_ca (goodIn_r _ [5, 6, 7, 8, 9, 10, 11, 12, 13, 14, 15, 16, 17, 18, 19, 20, 21, 22, 23, 24, 25, 26, 27, 28, 29, 30, 31, 32, 61, 62, 63, 64, 65, 66, 67, 68, 69, 70] (by decide +kernel) (by decide +kernel)) (goodIn_sub (fun _ h => List.mem_cons_of_mem _ (List.mem_append_right _ h)) (by decide +kernel))
set_option maxRecDepth 20000 in
theorem gX5_guess_X5_findCopy : GoodIn wsX5_guess (wsV RX5 80 RX5 yX5_findCopy wsX5_findCopy) := goodIn_app (goodIn_of _ (by decide +kernel)) ggX5_guess_X5_findCopy
set_option maxRecDepth 20000 in
theorem ggX5_guess_X5_guessFor : GoodIn wsX5_guess wsX5_guessFor := goodIn_r _ [36, 37, 8, 9, 38, 39, 40, 41, 42, 43, 44, 10, 11, 12, 13, 14, 15, 16, 17, 18, 19, 20, 21, 22, 23, 24, 25, 26, 27, 28, 29, 30, 31, 32, 45, 46, 4, 47, 48, 49, 50, 51, 52, 53, 54, 55, 56, 57, 71, 72, 73, 74, 75, 76, 77, 61, 62, 63, 64, 65, 66, 67, 68, 69, 70] (by decide +kernel) (by decide +kernel)
set_option maxRecDepth 20000 in
theorem gX5_guess_X5_guessFor : GoodIn wsX5_guess (wsV RX5 256 RX5 yX5_guessFor wsX5_guessFor) := goodIn_app (goodIn_of _ (by decide +kernel)) ggX5_guess_X5_guessFor
set_option maxRecDepth 20000 in
theorem ggX5_guess_X5_numberOf : GoodIn wsX5_guess wsX5_numberOf := goodIn_r _ [60, 37, 71, 72, 73, 74, 75, 76, 77] (by decide +kernel) (by decide +kernel)
set_option maxRecDepth 20000 in
theorem gX5_guess_X5_numberOf : GoodIn wsX5_guess (va_wsS RX5 237 yX5_numberOf wsX5_numberOf) := goodIn_app (goodIn_of _ (by decide +kernel)) ggX5_guess_X5_numberOf
theorem dX5_guess_0 : decode cX5_guess 0 = .ok (.aload_n 0, 1) := by decide +kernel
theorem dX5_guess_1 : decode cX5_guess 1 = .ok (.aload_n 0, 1) := by decide +kernel
theorem dX5_guess_2 : decode cX5_guess 2 = .ok (.iload_n 1, 1) := by decide +kernel
theorem dX5_guess_3 : decode cX5_guess 3 = .ok (.invokevirtual 80, 3) := by decide +kernel
theorem dX5_guess_6 : decode cX5_guess 6 = .ok (.invokevirtual 256, 3) := by decide +kernel
theorem dX5_guess_9 : decode cX5_guess 9 = .ok (.invokestatic 237, 3) := by decide +kernel
theorem dX5_guess_12 : decode cX5_guess 12 = .ok (.ireturn, 1) := by decide +kernel
set_option maxRecDepth 20000 in
theorem ggX5_rightGuesses_Jx4a65c_size_8abf5 : GoodIn wsX5_rightGuesses wsJx4a65c_size_8abf5 := goodIn_r _ [8, 9, 67, 68, 69] (by decide +kernel) (by decide +kernel)
set_option maxRecDepth 20000 in
theorem gX5_rightGuesses_Jx4a65c_size_8abf5 : GoodIn wsX5_rightGuesses (wsV RX5 97 RJx4a65c yJx4a65c_size_8abf5 wsJx4a65c_size_8abf5) := goodIn_app (goodIn_of _ (by decide +kernel)) ggX5_rightGuesses_Jx4a65c_size_8abf5
set_option maxRecDepth 20000 in
theorem ggX5_rightGuesses_Jx4a65c_get_915e3 : GoodIn wsX5_rightGuesses wsJx4a65c_get_915e3 := goodIn_r _ [13, 9, 14, 15, 16, 17, 18, 19, 20, 21, 22, 23, 24, 7, 25, 26, 67, 68, 69] (by decide +kernel) (by decide +kernel)
set_option maxRecDepth 20000 in
theorem gX5_rightGuesses_Jx4a65c_get_915e3 : GoodIn wsX5_rightGuesses (wsV RX5 162 RJx4a65c yJx4a65c_get_915e3 wsJx4a65c_get_915e3) := goodIn_app (goodIn_of _ (by decide +kernel)) ggX5_rightGuesses_Jx4a65c_get_915e3
set_option maxRecDepth 20000 in
theorem ggX5_rightGuesses_X5_guessFor : GoodIn wsX5_rightGuesses wsX5_guessFor := goodIn_r _ [31, 32, 1, 2, 33, 34, 35, 36, 37, 38, 39, 4, 5, 6, 7, 8, 9, 10, 11, 12, 13, 14, 15, 16, 17, 18, 19, 20, 21, 22, 23, 24, 25, 26, 40, 41, 30, 42, 43, 44, 45, 46, 47, 48, 49, 50, 51, 52, 60, 61, 62, 63, 64, 65, 66, 53, 54, 55, 56, 57, 58, 59, 67, 68, 69] (by decide +kernel) (by decide +kernel)
set_option maxRecDepth 20000 in
theorem gX5_rightGuesses_X5_guessFor : GoodIn wsX5_rightGuesses (wsV RX5 256 RX5 yX5_guessFor wsX5_guessFor) := goodIn_app (goodIn_of _ (by decide +kernel)) ggX5_rightGuesses_X5_guessFor
theorem dX5_rightGuesses_0 : decode cX5_rightGuesses 0 = .ok (.iconst 0, 1) := by decide +kernel
theorem dX5_rightGuesses_1 : decode cX5_rightGuesses 1 = .ok (.istore_n 1, 1) := by decide +kernel
theorem dX5_rightGuesses_2 : decode cX5_rightGuesses 2 = .ok (.iconst 0, 1) := by decide +kernel
theorem dX5_rightGuesses_3 : decode cX5_rightGuesses 3 = .ok (.istore_n 2, 1) := by decide +kernel
theorem dX5_rightGuesses_4 : decode cX5_rightGuesses 4 = .ok (.iload_n 2, 1) := by decide +kernel
theorem dX5_rightGuesses_5 : decode cX5_rightGuesses 5 = .ok (.aload_n 0, 1) := by decide +kernel
theorem dX5_rightGuesses_6 : decode cX5_rightGuesses 6 = .ok (.getfield 16, 3) := by decide +kernel
theorem dX5_rightGuesses_9 : decode cX5_rightGuesses 9 = .ok (.invokevirtual 97, 3) := by decide +kernel
theorem dX5_rightGuesses_12 : decode cX5_rightGuesses 12 = .ok (.if_icmp .ge 50, 3) := by decide +kernel
theorem dX5_rightGuesses_15 : decode cX5_rightGuesses 15 = .ok (.aload_n 0, 1) := by decide +kernel
theorem dX5_rightGuesses_16 : decode cX5_rightGuesses 16 = .ok (.aload_n 0, 1) := by decide +kernel
theorem dX5_rightGuesses_17 : decode cX5_rightGuesses 17 = .ok (.getfield 16, 3) := by decide +kernel
theorem dX5_rightGuesses_20 : decode cX5_rightGuesses 20 = .ok (.iload_n 2, 1) := by decide +kernel
theorem dX5_rightGuesses_21 : decode cX5_rightGuesses 21 = .ok (.invokevirtual 162, 3) := by decide +kernel
theorem dX5_rightGuesses_24 : decode cX5_rightGuesses 24 = .ok (.checkcast 49, 3) := by decide +kernel
theorem dX5_rightGuesses_27 : decode cX5_rightGuesses 27 = .ok (.invokevirtual 256, 3) := by decide +kernel
theorem dX5_rightGuesses_30 : decode cX5_rightGuesses 30 = .ok (.astore_n 3, 1) := by decide +kernel
theorem dX5_rightGuesses_31 : decode cX5_rightGuesses 31 = .ok (.aload_n 3, 1) := by decide +kernel
theorem dX5_rightGuesses_32 : decode cX5_rightGuesses 32 = .ok (.ifnull 24, 3) := by decide +kernel
theorem dX5_rightGuesses_35 : decode cX5_rightGuesses 35 = .ok (.aload_n 3, 1) := by decide +kernel
theorem dX5_rightGuesses_36 : decode cX5_rightGuesses 36 = .ok (.aload_n 0, 1) := by decide +kernel
theorem dX5_rightGuesses_37 : decode cX5_rightGuesses 37 = .ok (.getfield 16, 3) := by decide +kernel
theorem dX5_rightGuesses_40 : decode cX5_rightGuesses 40 = .ok (.iload_n 2, 1) := by decide +kernel
theorem dX5_rightGuesses_41 : decode cX5_rightGuesses 41 = .ok (.invokevirtual 162, 3) := by decide +kernel
theorem dX5_rightGuesses_44 : decode cX5_rightGuesses 44 = .ok (.checkcast 49, 3) := by decide +kernel
theorem dX5_rightGuesses_47 : decode cX5_rightGuesses 47 = .ok (.getfield 121, 3) := by decide +kernel
theorem dX5_rightGuesses_50 : decode cX5_rightGuesses 50 = .ok (.if_acmp .ne 6, 3) := by decide +kernel
theorem dX5_rightGuesses_53 : decode cX5_rightGuesses 53 = .ok (.iinc 1 1, 3) := by decide +kernel
theorem dX5_rightGuesses_56 : decode cX5_rightGuesses 56 = .ok (.iinc 2 1, 3) := by decide +kernel
theorem dX5_rightGuesses_59 : decode cX5_rightGuesses 59 = .ok (.goto (-55), 3) := by decide +kernel
theorem dX5_rightGuesses_62 : decode cX5_rightGuesses 62 = .ok (.iload_n 1, 1) := by decide +kernel
theorem dX5_rightGuesses_63 : decode cX5_rightGuesses 63 = .ok (.ireturn, 1) := by decide +kernel
set_option maxRecDepth 20000 in
theorem ggX5_spread_X5_requireError : GoodIn wsX5_spread wsX5_requireError := goodIn_ca (goodIn_ca (goodIn_r _ [4, 5, 6, 7, 8, 3, 9, 10, 11] (by decide +kernel) (by decide +kernel)) (goodIn_sub (fun _ h => List.mem_cons_of_mem _ (List.mem_append_left _ (List.mem_append_right _ h))) (by decide +kernel))) (goodIn_sub (fun _ h => List.mem_cons_of_mem _ (List.mem_append_right _ h)) (by decide +kernel))
set_option maxRecDepth 20000 in
theorem gX5_spread_X5_requireError : GoodIn wsX5_spread (va_wsS RX5 260 yX5_requireError wsX5_requireError) := goodIn_app (goodIn_of _ (by decide +kernel)) ggX5_spread_X5_requireError
set_option maxRecDepth 20000 in
theorem ggX5_spread_X5_copiesThatRead : GoodIn wsX5_spread wsX5_copiesThatRead := goodIn_r _ [15, 16, 17, 18, 19, 20, 21, 22, 23, 24, 25, 26, 27, 28, 29, 30, 31, 32, 33, 34, 35, 36, 37, 38, 39, 40, 41, 42, 43, 3, 44, 45, 53, 54, 55, 56, 57, 58, 59, 60, 61, 62, 63, 64, 65, 66, 67, 68, 69] (by decide +kernel) (by decide +kernel)
set_option maxRecDepth 20000 in
theorem gX5_spread_X5_copiesThatRead : GoodIn wsX5_spread (wsV RX5 263 RX5 yX5_copiesThatRead wsX5_copiesThatRead) := goodIn_app (goodIn_of _ (by decide +kernel)) ggX5_spread_X5_copiesThatRead
set_option maxRecDepth 20000 in
theorem ggX5_spread_J13_bitCount_95d88 : GoodIn wsX5_spread wsJ13_bitCount_95d88 := goodIn_r _ [49, 50, 51, 52] (by decide +kernel) (by decide +kernel)
set_option maxRecDepth 20000 in
theorem gX5_spread_J13_bitCount_95d88 : GoodIn wsX5_spread (va_wsS RX5 267 yJ13_bitCount_95d88 wsJ13_bitCount_95d88) := goodIn_app (goodIn_of _ (by decide +kernel)) ggX5_spread_J13_bitCount_95d88
theorem dX5_spread_0 : decode cX5_spread 0 = .ok (.iload_n 1, 1) := by decide +kernel
theorem dX5_spread_1 : decode cX5_spread 1 = .ok (.iload_n 2, 1) := by decide +kernel
theorem dX5_spread_2 : decode cX5_spread 2 = .ok (.invokestatic 260, 3) := by decide +kernel
theorem dX5_spread_5 : decode cX5_spread 5 = .ok (.aload_n 0, 1) := by decide +kernel
theorem dX5_spread_6 : decode cX5_spread 6 = .ok (.iload_n 1, 1) := by decide +kernel
theorem dX5_spread_7 : decode cX5_spread 7 = .ok (.iload_n 2, 1) := by decide +kernel
theorem dX5_spread_8 : decode cX5_spread 8 = .ok (.invokevirtual 263, 3) := by decide +kernel
theorem dX5_spread_11 : decode cX5_spread 11 = .ok (.invokestatic 267, 3) := by decide +kernel
theorem dX5_spread_14 : decode cX5_spread 14 = .ok (.ireturn, 1) := by decide +kernel
set_option maxRecDepth 20000 in
theorem ggX5_sources_X5_requireError : GoodIn wsX5_sources wsX5_requireError := goodIn_ca (goodIn_ca (goodIn_r _ [7, 8, 9, 10, 11, 6, 12, 13, 14] (by decide +kernel) (by decide +kernel)) (goodIn_sub (fun _ h => List.mem_cons_of_mem _ (List.mem_append_left _ (List.mem_append_right _ h))) (by decide +kernel))) (goodIn_sub (fun _ h => List.mem_cons_of_mem _ (List.mem_append_right _ h)) (by decide +kernel))
set_option maxRecDepth 20000 in
theorem gX5_sources_X5_requireError : GoodIn wsX5_sources (va_wsS RX5 260 yX5_requireError wsX5_requireError) := goodIn_app (goodIn_of _ (by decide +kernel)) ggX5_sources_X5_requireError
set_option maxRecDepth 20000 in
theorem ggX5_sources_Jx4a65c_size_8abf5 : GoodIn wsX5_sources wsJx4a65c_size_8abf5 := goodIn_r _ [19, 20, 77, 78, 79] (by decide +kernel) (by decide +kernel)
set_option maxRecDepth 20000 in
theorem gX5_sources_Jx4a65c_size_8abf5 : GoodIn wsX5_sources (wsV RX5 97 RJx4a65c yJx4a65c_size_8abf5 wsJx4a65c_size_8abf5) := goodIn_app (goodIn_of _ (by decide +kernel)) ggX5_sources_Jx4a65c_size_8abf5
set_option maxRecDepth 20000 in
theorem ggX5_sources_Jx4a65c_get_915e3 : GoodIn wsX5_sources wsJx4a65c_get_915e3 := goodIn_r _ [24, 20, 25, 26, 27, 28, 29, 30, 31, 32, 33, 34, 35, 18, 36, 37, 77, 78, 79] (by decide +kernel) (by decide +kernel)
set_option maxRecDepth 20000 in
theorem gX5_sources_Jx4a65c_get_915e3 : GoodIn wsX5_sources (wsV RX5 162 RJx4a65c yJx4a65c_get_915e3 wsJx4a65c_get_915e3) := goodIn_app (goodIn_of _ (by decide +kernel)) ggX5_sources_Jx4a65c_get_915e3
set_option maxRecDepth 20000 in
theorem ggX5_sources_X5_guessFor : GoodIn wsX5_sources wsX5_guessFor := goodIn_r _ [41, 42, 1, 2, 43, 44, 45, 46, 47, 48, 49, 15, 16, 17, 18, 19, 20, 21, 22, 23, 24, 25, 26, 27, 28, 29, 30, 31, 32, 33, 34, 35, 36, 37, 50, 51, 6, 52, 53, 54, 55, 56, 57, 58, 59, 60, 61, 62, 70, 71, 72, 73, 74, 75, 76, 63, 64, 65, 66, 67, 68, 69, 77, 78, 79] (by decide +kernel) (by decide +kernel)
set_option maxRecDepth 20000 in
theorem gX5_sources_X5_guessFor : GoodIn wsX5_sources (wsV RX5 256 RX5 yX5_guessFor wsX5_guessFor) := goodIn_app (goodIn_of _ (by decide +kernel)) ggX5_sources_X5_guessFor
theorem dX5_sources_0 : decode cX5_sources 0 = .ok (.iload_n 1, 1) := by decide +kernel
theorem dX5_sources_1 : decode cX5_sources 1 = .ok (.iload_n 2, 1) := by decide +kernel
theorem dX5_sources_2 : decode cX5_sources 2 = .ok (.invokestatic 260, 3) := by decide +kernel
theorem dX5_sources_5 : decode cX5_sources 5 = .ok (.iconst 0, 1) := by decide +kernel
theorem dX5_sources_6 : decode cX5_sources 6 = .ok (.istore_n 3, 1) := by decide +kernel
theorem dX5_sources_7 : decode cX5_sources 7 = .ok (.iconst 0, 1) := by decide +kernel
theorem dX5_sources_8 : decode cX5_sources 8 = .ok (.istore 4, 2) := by decide +kernel
theorem dX5_sources_10 : decode cX5_sources 10 = .ok (.iload 4, 2) := by decide +kernel
theorem dX5_sources_12 : decode cX5_sources 12 = .ok (.aload_n 0, 1) := by decide +kernel
theorem dX5_sources_13 : decode cX5_sources 13 = .ok (.getfield 16, 3) := by decide +kernel
theorem dX5_sources_16 : decode cX5_sources 16 = .ok (.invokevirtual 97, 3) := by decide +kernel
theorem dX5_sources_19 : decode cX5_sources 19 = .ok (.if_icmp .ge 61, 3) := by decide +kernel
theorem dX5_sources_22 : decode cX5_sources 22 = .ok (.aload_n 0, 1) := by decide +kernel
theorem dX5_sources_23 : decode cX5_sources 23 = .ok (.getfield 16, 3) := by decide +kernel
theorem dX5_sources_26 : decode cX5_sources 26 = .ok (.iload 4, 2) := by decide +kernel
theorem dX5_sources_28 : decode cX5_sources 28 = .ok (.invokevirtual 162, 3) := by decide +kernel
theorem dX5_sources_31 : decode cX5_sources 31 = .ok (.checkcast 49, 3) := by decide +kernel
theorem dX5_sources_34 : decode cX5_sources 34 = .ok (.astore 5, 2) := by decide +kernel
theorem dX5_sources_36 : decode cX5_sources 36 = .ok (.aload 5, 2) := by decide +kernel
theorem dX5_sources_38 : decode cX5_sources 38 = .ok (.getfield 139, 3) := by decide +kernel
theorem dX5_sources_41 : decode cX5_sources 41 = .ok (.iload_n 1, 1) := by decide +kernel
theorem dX5_sources_42 : decode cX5_sources 42 = .ok (.iaload, 1) := by decide +kernel
theorem dX5_sources_43 : decode cX5_sources 43 = .ok (.iload_n 2, 1) := by decide +kernel
theorem dX5_sources_44 : decode cX5_sources 44 = .ok (.if_icmp .ne 30, 3) := by decide +kernel
theorem dX5_sources_47 : decode cX5_sources 47 = .ok (.aload_n 0, 1) := by decide +kernel
theorem dX5_sources_48 : decode cX5_sources 48 = .ok (.aload 5, 2) := by decide +kernel
theorem dX5_sources_50 : decode cX5_sources 50 = .ok (.invokevirtual 256, 3) := by decide +kernel
theorem dX5_sources_53 : decode cX5_sources 53 = .ok (.astore 6, 2) := by decide +kernel
theorem dX5_sources_55 : decode cX5_sources 55 = .ok (.aload 6, 2) := by decide +kernel
theorem dX5_sources_57 : decode cX5_sources 57 = .ok (.ifnull 14, 3) := by decide +kernel
theorem dX5_sources_60 : decode cX5_sources 60 = .ok (.aload 6, 2) := by decide +kernel
theorem dX5_sources_62 : decode cX5_sources 62 = .ok (.getfield 139, 3) := by decide +kernel
theorem dX5_sources_65 : decode cX5_sources 65 = .ok (.iload_n 1, 1) := by decide +kernel
theorem dX5_sources_66 : decode cX5_sources 66 = .ok (.iaload, 1) := by decide +kernel
theorem dX5_sources_67 : decode cX5_sources 67 = .ok (.iload_n 2, 1) := by decide +kernel
theorem dX5_sources_68 : decode cX5_sources 68 = .ok (.if_icmp .eq 6, 3) := by decide +kernel
theorem dX5_sources_71 : decode cX5_sources 71 = .ok (.iinc 3 1, 3) := by decide +kernel
theorem dX5_sources_74 : decode cX5_sources 74 = .ok (.iinc 4 1, 3) := by decide +kernel
theorem dX5_sources_77 : decode cX5_sources 77 = .ok (.goto (-67), 3) := by decide +kernel
theorem dX5_sources_80 : decode cX5_sources 80 = .ok (.iload_n 3, 1) := by decide +kernel
theorem dX5_sources_81 : decode cX5_sources 81 = .ok (.ireturn, 1) := by decide +kernel
set_option maxRecDepth 20000 in
theorem ggX5_letters_Jx4a65c_size_8abf5 : GoodIn wsX5_letters wsJx4a65c_size_8abf5 := goodIn_r _ [6, 7, 15, 16, 17] (by decide +kernel) (by decide +kernel)
set_option maxRecDepth 20000 in
theorem gX5_letters_Jx4a65c_size_8abf5 : GoodIn wsX5_letters (wsV RX5 97 RJx4a65c yJx4a65c_size_8abf5 wsJx4a65c_size_8abf5) := goodIn_app (goodIn_of _ (by decide +kernel)) ggX5_letters_Jx4a65c_size_8abf5
theorem dX5_letters_0 : decode cX5_letters 0 = .ok (.aload_n 0, 1) := by decide +kernel
theorem dX5_letters_1 : decode cX5_letters 1 = .ok (.getfield 19, 3) := by decide +kernel
theorem dX5_letters_4 : decode cX5_letters 4 = .ok (.invokevirtual 97, 3) := by decide +kernel
theorem dX5_letters_7 : decode cX5_letters 7 = .ok (.ireturn, 1) := by decide +kernel
set_option maxRecDepth 20000 in
theorem ggX5_hasLetter_X5_findHouse : GoodIn wsX5_hasLetter wsX5_findHouse := goodIn_ca (goodIn_r _ [5, 6, 7, 8, 9, 10, 11, 12, 13, 14, 15, 16, 17, 18, 19, 20, 21, 22, 23, 24, 25, 26, 27, 28, 29, 30, 31, 32, 44, 45, 46, 47, 48, 49, 50, 51, 52, 53] (by decide +kernel) (by decide +kernel)) (goodIn_sub (fun _ h => List.mem_cons_of_mem _ (List.mem_append_right _ h)) (by decide +kernel))
set_option maxRecDepth 20000 in
theorem gX5_hasLetter_X5_findHouse : GoodIn wsX5_hasLetter (wsV RX5 87 RX5 yX5_findHouse wsX5_findHouse) := goodIn_app (goodIn_of _ (by decide +kernel)) ggX5_hasLetter_X5_findHouse
set_option maxRecDepth 20000 in
theorem ggX5_hasLetter_X5_requireLetter : GoodIn wsX5_hasLetter wsX5_requireLetter := goodIn_ca (goodIn_r _ [36, 6, 7, 37, 10, 11, 12, 13, 14, 15, 44, 45, 46, 47, 48, 49, 50, 51, 52, 53] (by decide +kernel) (by decide +kernel)) (goodIn_sub (fun _ h => List.mem_cons_of_mem _ (List.mem_append_right _ h)) (by decide +kernel))
set_option maxRecDepth 20000 in
theorem gX5_hasLetter_X5_requireLetter : GoodIn wsX5_hasLetter (wsV RX5 272 RX5 yX5_requireLetter wsX5_requireLetter) := goodIn_app (goodIn_of _ (by decide +kernel)) ggX5_hasLetter_X5_requireLetter
set_option maxRecDepth 20000 in
theorem ggX5_hasLetter_X2_holds : GoodIn wsX5_hasLetter wsX2_holds := goodIn_r _ [42, 43, 54, 55, 56, 57] (by decide +kernel) (by decide +kernel)
set_option maxRecDepth 20000 in
theorem gX5_hasLetter_X2_holds : GoodIn wsX5_hasLetter (wsV RX5 159 RX2 yX2_holds wsX2_holds) := goodIn_app (goodIn_of _ (by decide +kernel)) ggX5_hasLetter_X2_holds
theorem dX5_hasLetter_0 : decode cX5_hasLetter 0 = .ok (.aload_n 0, 1) := by decide +kernel
theorem dX5_hasLetter_1 : decode cX5_hasLetter 1 = .ok (.iload_n 1, 1) := by decide +kernel
theorem dX5_hasLetter_2 : decode cX5_hasLetter 2 = .ok (.invokevirtual 87, 3) := by decide +kernel
theorem dX5_hasLetter_5 : decode cX5_hasLetter 5 = .ok (.astore_n 3, 1) := by decide +kernel
theorem dX5_hasLetter_6 : decode cX5_hasLetter 6 = .ok (.aload_n 0, 1) := by decide +kernel
theorem dX5_hasLetter_7 : decode cX5_hasLetter 7 = .ok (.iload_n 2, 1) := by decide +kernel
theorem dX5_hasLetter_8 : decode cX5_hasLetter 8 = .ok (.invokevirtual 272, 3) := by decide +kernel
theorem dX5_hasLetter_11 : decode cX5_hasLetter 11 = .ok (.aload_n 3, 1) := by decide +kernel
theorem dX5_hasLetter_12 : decode cX5_hasLetter 12 = .ok (.iload_n 2, 1) := by decide +kernel
theorem dX5_hasLetter_13 : decode cX5_hasLetter 13 = .ok (.invokevirtual 159, 3) := by decide +kernel
theorem dX5_hasLetter_16 : decode cX5_hasLetter 16 = .ok (.ireturn, 1) := by decide +kernel
set_option maxRecDepth 20000 in
theorem ggX5_letter_X5_requireLetter : GoodIn wsX5_letter wsX5_requireLetter := goodIn_ca (goodIn_r _ [10, 11, 12, 1, 13, 14, 15, 16, 17, 18, 36, 37, 38, 39, 40, 41, 42, 46, 47, 48] (by decide +kernel) (by decide +kernel)) (goodIn_sub (fun _ h => List.mem_cons_of_mem _ (List.mem_append_right _ h)) (by decide +kernel))
set_option maxRecDepth 20000 in
theorem gX5_letter_X5_requireLetter : GoodIn wsX5_letter (wsV RX5 272 RX5 yX5_requireLetter wsX5_requireLetter) := goodIn_app (goodIn_of _ (by decide +kernel)) ggX5_letter_X5_requireLetter
set_option maxRecDepth 20000 in
theorem ggX5_letter_Jx4a65c_get_915e3 : GoodIn wsX5_letter wsJx4a65c_get_915e3 := goodIn_r _ [22, 18, 23, 24, 25, 26, 27, 28, 29, 30, 31, 32, 33, 16, 34, 35, 46, 47, 48] (by decide +kernel) (by decide +kernel)
set_option maxRecDepth 20000 in
theorem gX5_letter_Jx4a65c_get_915e3 : GoodIn wsX5_letter (wsV RX5 162 RJx4a65c yJx4a65c_get_915e3 wsJx4a65c_get_915e3) := goodIn_app (goodIn_of _ (by decide +kernel)) ggX5_letter_Jx4a65c_get_915e3
theorem dX5_letter_0 : decode cX5_letter 0 = .ok (.aload_n 0, 1) := by decide +kernel
theorem dX5_letter_1 : decode cX5_letter 1 = .ok (.iload_n 1, 1) := by decide +kernel
theorem dX5_letter_2 : decode cX5_letter 2 = .ok (.invokevirtual 272, 3) := by decide +kernel
theorem dX5_letter_5 : decode cX5_letter 5 = .ok (.aload_n 0, 1) := by decide +kernel
theorem dX5_letter_6 : decode cX5_letter 6 = .ok (.getfield 19, 3) := by decide +kernel
theorem dX5_letter_9 : decode cX5_letter 9 = .ok (.iload_n 1, 1) := by decide +kernel
theorem dX5_letter_10 : decode cX5_letter 10 = .ok (.invokevirtual 162, 3) := by decide +kernel
theorem dX5_letter_13 : decode cX5_letter 13 = .ok (.checkcast 146, 3) := by decide +kernel
theorem dX5_letter_16 : decode cX5_letter 16 = .ok (.astore_n 2, 1) := by decide +kernel
theorem dX5_letter_17 : decode cX5_letter 17 = .ok (.bipush 100, 2) := by decide +kernel
theorem dX5_letter_19 : decode cX5_letter 19 = .ok (.aload_n 2, 1) := by decide +kernel
theorem dX5_letter_20 : decode cX5_letter 20 = .ok (.getfield 275, 3) := by decide +kernel
theorem dX5_letter_23 : decode cX5_letter 23 = .ok (.imul, 1) := by decide +kernel
theorem dX5_letter_24 : decode cX5_letter 24 = .ok (.bipush 10, 2) := by decide +kernel
theorem dX5_letter_26 : decode cX5_letter 26 = .ok (.aload_n 2, 1) := by decide +kernel
theorem dX5_letter_27 : decode cX5_letter 27 = .ok (.getfield 278, 3) := by decide +kernel
theorem dX5_letter_30 : decode cX5_letter 30 = .ok (.imul, 1) := by decide +kernel
theorem dX5_letter_31 : decode cX5_letter 31 = .ok (.iadd, 1) := by decide +kernel
theorem dX5_letter_32 : decode cX5_letter 32 = .ok (.aload_n 2, 1) := by decide +kernel
theorem dX5_letter_33 : decode cX5_letter 33 = .ok (.getfield 281, 3) := by decide +kernel
theorem dX5_letter_36 : decode cX5_letter 36 = .ok (.iadd, 1) := by decide +kernel
theorem dX5_letter_37 : decode cX5_letter 37 = .ok (.ireturn, 1) := by decide +kernel
set_option maxRecDepth 20000 in
theorem ggX5_loans_Jx4a65c_size_8abf5 : GoodIn wsX5_loans wsJx4a65c_size_8abf5 := goodIn_r _ [6, 7, 15, 16, 17] (by decide +kernel) (by decide +kernel)
set_option maxRecDepth 20000 in
theorem gX5_loans_Jx4a65c_size_8abf5 : GoodIn wsX5_loans (wsV RX5 97 RJx4a65c yJx4a65c_size_8abf5 wsJx4a65c_size_8abf5) := goodIn_app (goodIn_of _ (by decide +kernel)) ggX5_loans_Jx4a65c_size_8abf5
theorem dX5_loans_0 : decode cX5_loans 0 = .ok (.aload_n 0, 1) := by decide +kernel
theorem dX5_loans_1 : decode cX5_loans 1 = .ok (.getfield 22, 3) := by decide +kernel
theorem dX5_loans_4 : decode cX5_loans 4 = .ok (.invokevirtual 97, 3) := by decide +kernel
theorem dX5_loans_7 : decode cX5_loans 7 = .ok (.ireturn, 1) := by decide +kernel
set_option maxRecDepth 20000 in
theorem ggX5_isBack_X5_findLoan : GoodIn wsX5_isBack wsX5_findLoan := goodIn_ca (goodIn_r _ [6, 7, 8, 9, 10, 11, 12, 13, 14, 15, 16, 17, 18, 19, 20, 21, 22, 23, 24, 25, 26, 27, 28, 29, 30, 31, 32, 33, 40, 41, 42, 43, 44, 45, 46, 47, 48, 49] (by decide +kernel) (by decide +kernel)) (goodIn_sub (fun _ h => List.mem_cons_of_mem _ (List.mem_append_right _ h)) (by decide +kernel))
set_option maxRecDepth 20000 in
theorem gX5_isBack_X5_findLoan : GoodIn wsX5_isBack (wsV RX5 198 RX5 yX5_findLoan wsX5_findLoan) := goodIn_app (goodIn_of _ (by decide +kernel)) ggX5_isBack_X5_findLoan
theorem dX5_isBack_0 : decode cX5_isBack 0 = .ok (.aload_n 0, 1) := by decide +kernel
theorem dX5_isBack_1 : decode cX5_isBack 1 = .ok (.iload_n 1, 1) := by decide +kernel
theorem dX5_isBack_2 : decode cX5_isBack 2 = .ok (.invokevirtual 198, 3) := by decide +kernel
theorem dX5_isBack_5 : decode cX5_isBack 5 = .ok (.getfield 202, 3) := by decide +kernel
theorem dX5_isBack_8 : decode cX5_isBack 8 = .ok (.ireturn, 1) := by decide +kernel
set_option maxRecDepth 20000 in
theorem ggX5_late_X5_findLoan : GoodIn wsX5_late wsX5_findLoan := goodIn_ca (goodIn_r _ [8, 9, 10, 11, 12, 13, 14, 15, 16, 17, 18, 19, 20, 21, 22, 23, 24, 25, 26, 27, 28, 29, 30, 31, 32, 33, 34, 35, 52, 53, 54, 55, 56, 57, 58, 59, 60, 61] (by decide +kernel) (by decide +kernel)) (goodIn_sub (fun _ h => List.mem_cons_of_mem _ (List.mem_append_right _ h)) (by decide +kernel))
set_option maxRecDepth 20000 in
theorem gX5_late_X5_findLoan : GoodIn wsX5_late (wsV RX5 198 RX5 yX5_findLoan wsX5_findLoan) := goodIn_app (goodIn_of _ (by decide +kernel)) ggX5_late_X5_findLoan
set_option maxRecDepth 20000 in
theorem ggX5_late_X4_daysLateOn : GoodIn wsX5_late wsX4_daysLateOn := goodIn_r _ [40, 41, 42, 43, 44, 45, 46, 47, 48, 49, 50, 51] (by decide +kernel) (by decide +kernel)
set_option maxRecDepth 20000 in
theorem gX5_late_X4_daysLateOn : GoodIn wsX5_late (wsV RX5 217 RX4 yX4_daysLateOn wsX4_daysLateOn) := goodIn_app (goodIn_of _ (by decide +kernel)) ggX5_late_X4_daysLateOn
theorem dX5_late_0 : decode cX5_late 0 = .ok (.aload_n 0, 1) := by decide +kernel
theorem dX5_late_1 : decode cX5_late 1 = .ok (.iload_n 1, 1) := by decide +kernel
theorem dX5_late_2 : decode cX5_late 2 = .ok (.invokevirtual 198, 3) := by decide +kernel
theorem dX5_late_5 : decode cX5_late 5 = .ok (.astore_n 2, 1) := by decide +kernel
theorem dX5_late_6 : decode cX5_late 6 = .ok (.aload_n 2, 1) := by decide +kernel
theorem dX5_late_7 : decode cX5_late 7 = .ok (.getfield 202, 3) := by decide +kernel
theorem dX5_late_10 : decode cX5_late 10 = .ok (.ifCond .eq 10, 3) := by decide +kernel
theorem dX5_late_13 : decode cX5_late 13 = .ok (.aload_n 2, 1) := by decide +kernel
theorem dX5_late_14 : decode cX5_late 14 = .ok (.getfield 220, 3) := by decide +kernel
theorem dX5_late_17 : decode cX5_late 17 = .ok (.goto 11, 3) := by decide +kernel
theorem dX5_late_20 : decode cX5_late 20 = .ok (.aload_n 2, 1) := by decide +kernel
theorem dX5_late_21 : decode cX5_late 21 = .ok (.aload_n 0, 1) := by decide +kernel
theorem dX5_late_22 : decode cX5_late 22 = .ok (.getfield 36, 3) := by decide +kernel
theorem dX5_late_25 : decode cX5_late 25 = .ok (.invokevirtual 217, 3) := by decide +kernel
theorem dX5_late_28 : decode cX5_late 28 = .ok (.ireturn, 1) := by decide +kernel
set_option maxRecDepth 20000 in
theorem ggX5_coins_X5_findHouse : GoodIn wsX5_coins wsX5_findHouse := goodIn_ca (goodIn_r _ [6, 7, 8, 9, 10, 11, 12, 13, 14, 15, 16, 17, 18, 19, 20, 21, 22, 23, 24, 25, 26, 27, 28, 29, 30, 31, 32, 33, 38, 39, 40, 41, 42, 43, 44, 45, 46, 47] (by decide +kernel) (by decide +kernel)) (goodIn_sub (fun _ h => List.mem_cons_of_mem _ (List.mem_append_right _ h)) (by decide +kernel))
set_option maxRecDepth 20000 in
theorem gX5_coins_X5_findHouse : GoodIn wsX5_coins (wsV RX5 87 RX5 yX5_findHouse wsX5_findHouse) := goodIn_app (goodIn_of _ (by decide +kernel)) ggX5_coins_X5_findHouse
theorem dX5_coins_0 : decode cX5_coins 0 = .ok (.aload_n 0, 1) := by decide +kernel
theorem dX5_coins_1 : decode cX5_coins 1 = .ok (.iload_n 1, 1) := by decide +kernel
theorem dX5_coins_2 : decode cX5_coins 2 = .ok (.invokevirtual 87, 3) := by decide +kernel
theorem dX5_coins_5 : decode cX5_coins 5 = .ok (.getfield 179, 3) := by decide +kernel
theorem dX5_coins_8 : decode cX5_coins 8 = .ok (.ireturn, 1) := by decide +kernel
set_option maxRecDepth 20000 in
theorem ggX5_laidDown_X5_findHouse : GoodIn wsX5_laidDown wsX5_findHouse := goodIn_ca (goodIn_r _ [6, 7, 8, 9, 10, 11, 12, 13, 14, 15, 16, 17, 18, 19, 20, 21, 22, 23, 24, 25, 26, 27, 28, 29, 30, 31, 32, 33, 38, 39, 40, 41, 42, 43, 44, 45, 46, 47] (by decide +kernel) (by decide +kernel)) (goodIn_sub (fun _ h => List.mem_cons_of_mem _ (List.mem_append_right _ h)) (by decide +kernel))
set_option maxRecDepth 20000 in
theorem gX5_laidDown_X5_findHouse : GoodIn wsX5_laidDown (wsV RX5 87 RX5 yX5_findHouse wsX5_findHouse) := goodIn_app (goodIn_of _ (by decide +kernel)) ggX5_laidDown_X5_findHouse
theorem dX5_laidDown_0 : decode cX5_laidDown 0 = .ok (.aload_n 0, 1) := by decide +kernel
theorem dX5_laidDown_1 : decode cX5_laidDown 1 = .ok (.iload_n 1, 1) := by decide +kernel
theorem dX5_laidDown_2 : decode cX5_laidDown 2 = .ok (.invokevirtual 87, 3) := by decide +kernel
theorem dX5_laidDown_5 : decode cX5_laidDown 5 = .ok (.getfield 191, 3) := by decide +kernel
theorem dX5_laidDown_8 : decode cX5_laidDown 8 = .ok (.ireturn, 1) := by decide +kernel
set_option maxRecDepth 20000 in
theorem ggX5_findCopy_Jx4a65c_size_8abf5 : GoodIn wsX5_findCopy wsJx4a65c_size_8abf5 := goodIn_r _ [9, 10, 35, 36, 37] (by decide +kernel) (by decide +kernel)
set_option maxRecDepth 20000 in
theorem gX5_findCopy_Jx4a65c_size_8abf5 : GoodIn wsX5_findCopy (wsV RX5 97 RJx4a65c yJx4a65c_size_8abf5 wsJx4a65c_size_8abf5) := goodIn_app (goodIn_of _ (by decide +kernel)) ggX5_findCopy_Jx4a65c_size_8abf5
set_option maxRecDepth 20000 in
theorem ggX5_findCopy_Jx4a65c_get_915e3 : GoodIn wsX5_findCopy wsJx4a65c_get_915e3 := goodIn_r _ [14, 10, 15, 16, 17, 18, 19, 20, 21, 22, 23, 24, 25, 8, 26, 27, 35, 36, 37] (by decide +kernel) (by decide +kernel)
set_option maxRecDepth 20000 in
theorem gX5_findCopy_Jx4a65c_get_915e3 : GoodIn wsX5_findCopy (wsV RX5 162 RJx4a65c yJx4a65c_get_915e3 wsJx4a65c_get_915e3) := goodIn_app (goodIn_of _ (by decide +kernel)) ggX5_findCopy_Jx4a65c_get_915e3
theorem dX5_findCopy_0 : decode cX5_findCopy 0 = .ok (.iload_n 1, 1) := by decide +kernel
theorem dX5_findCopy_1 : decode cX5_findCopy 1 = .ok (.ifCond .lt 14, 3) := by decide +kernel
theorem dX5_findCopy_4 : decode cX5_findCopy 4 = .ok (.iload_n 1, 1) := by decide +kernel
theorem dX5_findCopy_5 : decode cX5_findCopy 5 = .ok (.aload_n 0, 1) := by decide +kernel
theorem dX5_findCopy_6 : decode cX5_findCopy 6 = .ok (.getfield 16, 3) := by decide +kernel
theorem dX5_findCopy_9 : decode cX5_findCopy 9 = .ok (.invokevirtual 97, 3) := by decide +kernel
theorem dX5_findCopy_12 : decode cX5_findCopy 12 = .ok (.if_icmp .lt 14, 3) := by decide +kernel
theorem dX5_findCopy_15 : decode cX5_findCopy 15 = .ok (.new 284, 3) := by decide +kernel
theorem dX5_findCopy_18 : decode cX5_findCopy 18 = .ok (.dup, 1) := by decide +kernel
theorem dX5_findCopy_19 : decode cX5_findCopy 19 = .ok (.ldc_w 286, 3) := by decide +kernel
theorem dX5_findCopy_22 : decode cX5_findCopy 22 = .ok (.invokespecial 288, 3) := by decide +kernel
theorem dX5_findCopy_25 : decode cX5_findCopy 25 = .ok (.athrow, 1) := by decide +kernel
theorem dX5_findCopy_26 : decode cX5_findCopy 26 = .ok (.aload_n 0, 1) := by decide +kernel
theorem dX5_findCopy_27 : decode cX5_findCopy 27 = .ok (.getfield 16, 3) := by decide +kernel
theorem dX5_findCopy_30 : decode cX5_findCopy 30 = .ok (.iload_n 1, 1) := by decide +kernel
theorem dX5_findCopy_31 : decode cX5_findCopy 31 = .ok (.invokevirtual 162, 3) := by decide +kernel
theorem dX5_findCopy_34 : decode cX5_findCopy 34 = .ok (.checkcast 49, 3) := by decide +kernel
theorem dX5_findCopy_37 : decode cX5_findCopy 37 = .ok (.areturn, 1) := by decide +kernel
set_option maxRecDepth 20000 in
theorem ggX5_findHouse_Jx4a65c_size_8abf5 : GoodIn wsX5_findHouse wsJx4a65c_size_8abf5 := goodIn_r _ [9, 10, 35, 36, 37] (by decide +kernel) (by decide +kernel)
set_option maxRecDepth 20000 in
theorem gX5_findHouse_Jx4a65c_size_8abf5 : GoodIn wsX5_findHouse (wsV RX5 97 RJx4a65c yJx4a65c_size_8abf5 wsJx4a65c_size_8abf5) := goodIn_app (goodIn_of _ (by decide +kernel)) ggX5_findHouse_Jx4a65c_size_8abf5
set_option maxRecDepth 20000 in
theorem ggX5_findHouse_Jx4a65c_get_915e3 : GoodIn wsX5_findHouse wsJx4a65c_get_915e3 := goodIn_r _ [14, 10, 15, 16, 17, 18, 19, 20, 21, 22, 23, 24, 25, 8, 26, 27, 35, 36, 37] (by decide +kernel) (by decide +kernel)
set_option maxRecDepth 20000 in
theorem gX5_findHouse_Jx4a65c_get_915e3 : GoodIn wsX5_findHouse (wsV RX5 162 RJx4a65c yJx4a65c_get_915e3 wsJx4a65c_get_915e3) := goodIn_app (goodIn_of _ (by decide +kernel)) ggX5_findHouse_Jx4a65c_get_915e3
theorem dX5_findHouse_0 : decode cX5_findHouse 0 = .ok (.iload_n 1, 1) := by decide +kernel
theorem dX5_findHouse_1 : decode cX5_findHouse 1 = .ok (.ifCond .lt 14, 3) := by decide +kernel
theorem dX5_findHouse_4 : decode cX5_findHouse 4 = .ok (.iload_n 1, 1) := by decide +kernel
theorem dX5_findHouse_5 : decode cX5_findHouse 5 = .ok (.aload_n 0, 1) := by decide +kernel
theorem dX5_findHouse_6 : decode cX5_findHouse 6 = .ok (.getfield 10, 3) := by decide +kernel
theorem dX5_findHouse_9 : decode cX5_findHouse 9 = .ok (.invokevirtual 97, 3) := by decide +kernel
theorem dX5_findHouse_12 : decode cX5_findHouse 12 = .ok (.if_icmp .lt 14, 3) := by decide +kernel
theorem dX5_findHouse_15 : decode cX5_findHouse 15 = .ok (.new 284, 3) := by decide +kernel
theorem dX5_findHouse_18 : decode cX5_findHouse 18 = .ok (.dup, 1) := by decide +kernel
theorem dX5_findHouse_19 : decode cX5_findHouse 19 = .ok (.ldc_w 289, 3) := by decide +kernel
theorem dX5_findHouse_22 : decode cX5_findHouse 22 = .ok (.invokespecial 288, 3) := by decide +kernel
theorem dX5_findHouse_25 : decode cX5_findHouse 25 = .ok (.athrow, 1) := by decide +kernel
theorem dX5_findHouse_26 : decode cX5_findHouse 26 = .ok (.aload_n 0, 1) := by decide +kernel
theorem dX5_findHouse_27 : decode cX5_findHouse 27 = .ok (.getfield 10, 3) := by decide +kernel
theorem dX5_findHouse_30 : decode cX5_findHouse 30 = .ok (.iload_n 1, 1) := by decide +kernel
theorem dX5_findHouse_31 : decode cX5_findHouse 31 = .ok (.invokevirtual 162, 3) := by decide +kernel
theorem dX5_findHouse_34 : decode cX5_findHouse 34 = .ok (.checkcast 40, 3) := by decide +kernel
theorem dX5_findHouse_37 : decode cX5_findHouse 37 = .ok (.areturn, 1) := by decide +kernel
set_option maxRecDepth 20000 in
theorem ggX5_findLoan_Jx4a65c_size_8abf5 : GoodIn wsX5_findLoan wsJx4a65c_size_8abf5 := goodIn_r _ [9, 10, 35, 36, 37] (by decide +kernel) (by decide +kernel)
set_option maxRecDepth 20000 in
theorem gX5_findLoan_Jx4a65c_size_8abf5 : GoodIn wsX5_findLoan (wsV RX5 97 RJx4a65c yJx4a65c_size_8abf5 wsJx4a65c_size_8abf5) := goodIn_app (goodIn_of _ (by decide +kernel)) ggX5_findLoan_Jx4a65c_size_8abf5
set_option maxRecDepth 20000 in
theorem ggX5_findLoan_Jx4a65c_get_915e3 : GoodIn wsX5_findLoan wsJx4a65c_get_915e3 := goodIn_r _ [14, 10, 15, 16, 17, 18, 19, 20, 21, 22, 23, 24, 25, 8, 26, 27, 35, 36, 37] (by decide +kernel) (by decide +kernel)
set_option maxRecDepth 20000 in
theorem gX5_findLoan_Jx4a65c_get_915e3 : GoodIn wsX5_findLoan (wsV RX5 162 RJx4a65c yJx4a65c_get_915e3 wsJx4a65c_get_915e3) := goodIn_app (goodIn_of _ (by decide +kernel)) ggX5_findLoan_Jx4a65c_get_915e3
theorem dX5_findLoan_0 : decode cX5_findLoan 0 = .ok (.iload_n 1, 1) := by decide +kernel
theorem dX5_findLoan_1 : decode cX5_findLoan 1 = .ok (.ifCond .lt 14, 3) := by decide +kernel
theorem dX5_findLoan_4 : decode cX5_findLoan 4 = .ok (.iload_n 1, 1) := by decide +kernel
theorem dX5_findLoan_5 : decode cX5_findLoan 5 = .ok (.aload_n 0, 1) := by decide +kernel
theorem dX5_findLoan_6 : decode cX5_findLoan 6 = .ok (.getfield 22, 3) := by decide +kernel
theorem dX5_findLoan_9 : decode cX5_findLoan 9 = .ok (.invokevirtual 97, 3) := by decide +kernel
theorem dX5_findLoan_12 : decode cX5_findLoan 12 = .ok (.if_icmp .lt 14, 3) := by decide +kernel
theorem dX5_findLoan_15 : decode cX5_findLoan 15 = .ok (.new 284, 3) := by decide +kernel
theorem dX5_findLoan_18 : decode cX5_findLoan 18 = .ok (.dup, 1) := by decide +kernel
theorem dX5_findLoan_19 : decode cX5_findLoan 19 = .ok (.ldc_w 291, 3) := by decide +kernel
theorem dX5_findLoan_22 : decode cX5_findLoan 22 = .ok (.invokespecial 288, 3) := by decide +kernel
theorem dX5_findLoan_25 : decode cX5_findLoan 25 = .ok (.athrow, 1) := by decide +kernel
theorem dX5_findLoan_26 : decode cX5_findLoan 26 = .ok (.aload_n 0, 1) := by decide +kernel
theorem dX5_findLoan_27 : decode cX5_findLoan 27 = .ok (.getfield 22, 3) := by decide +kernel
theorem dX5_findLoan_30 : decode cX5_findLoan 30 = .ok (.iload_n 1, 1) := by decide +kernel
theorem dX5_findLoan_31 : decode cX5_findLoan 31 = .ok (.invokevirtual 162, 3) := by decide +kernel
theorem dX5_findLoan_34 : decode cX5_findLoan 34 = .ok (.checkcast 186, 3) := by decide +kernel
theorem dX5_findLoan_37 : decode cX5_findLoan 37 = .ok (.areturn, 1) := by decide +kernel
set_option maxRecDepth 20000 in
theorem ggX5_requireLetter_Jx4a65c_size_8abf5 : GoodIn wsX5_requireLetter wsJx4a65c_size_8abf5 := goodIn_r _ [8, 9, 17, 18, 19] (by decide +kernel) (by decide +kernel)
set_option maxRecDepth 20000 in
theorem gX5_requireLetter_Jx4a65c_size_8abf5 : GoodIn wsX5_requireLetter (wsV RX5 97 RJx4a65c yJx4a65c_size_8abf5 wsJx4a65c_size_8abf5) := goodIn_app (goodIn_of _ (by decide +kernel)) ggX5_requireLetter_Jx4a65c_size_8abf5
theorem dX5_requireLetter_0 : decode cX5_requireLetter 0 = .ok (.iload_n 1, 1) := by decide +kernel
theorem dX5_requireLetter_1 : decode cX5_requireLetter 1 = .ok (.ifCond .lt 14, 3) := by decide +kernel
theorem dX5_requireLetter_4 : decode cX5_requireLetter 4 = .ok (.iload_n 1, 1) := by decide +kernel
theorem dX5_requireLetter_5 : decode cX5_requireLetter 5 = .ok (.aload_n 0, 1) := by decide +kernel
theorem dX5_requireLetter_6 : decode cX5_requireLetter 6 = .ok (.getfield 19, 3) := by decide +kernel
theorem dX5_requireLetter_9 : decode cX5_requireLetter 9 = .ok (.invokevirtual 97, 3) := by decide +kernel
theorem dX5_requireLetter_12 : decode cX5_requireLetter 12 = .ok (.if_icmp .lt 14, 3) := by decide +kernel
theorem dX5_requireLetter_15 : decode cX5_requireLetter 15 = .ok (.new 284, 3) := by decide +kernel
theorem dX5_requireLetter_18 : decode cX5_requireLetter 18 = .ok (.dup, 1) := by decide +kernel
theorem dX5_requireLetter_19 : decode cX5_requireLetter 19 = .ok (.ldc_w 293, 3) := by decide +kernel
theorem dX5_requireLetter_22 : decode cX5_requireLetter 22 = .ok (.invokespecial 288, 3) := by decide +kernel
theorem dX5_requireLetter_25 : decode cX5_requireLetter 25 = .ok (.athrow, 1) := by decide +kernel
theorem dX5_requireLetter_26 : decode cX5_requireLetter 26 = .ok (.return_, 1) := by decide +kernel
theorem dX5_requirePlace_0 : decode cX5_requirePlace 0 = .ok (.iload_n 0, 1) := by decide +kernel
theorem dX5_requirePlace_1 : decode cX5_requirePlace 1 = .ok (.ifCond .lt 9, 3) := by decide +kernel
theorem dX5_requirePlace_4 : decode cX5_requirePlace 4 = .ok (.iload_n 0, 1) := by decide +kernel
theorem dX5_requirePlace_5 : decode cX5_requirePlace 5 = .ok (.bipush 24, 2) := by decide +kernel
theorem dX5_requirePlace_7 : decode cX5_requirePlace 7 = .ok (.if_icmp .lt 14, 3) := by decide +kernel
theorem dX5_requirePlace_10 : decode cX5_requirePlace 10 = .ok (.new 284, 3) := by decide +kernel
theorem dX5_requirePlace_13 : decode cX5_requirePlace 13 = .ok (.dup, 1) := by decide +kernel
theorem dX5_requirePlace_14 : decode cX5_requirePlace 14 = .ok (.ldc_w 295, 3) := by decide +kernel
theorem dX5_requirePlace_17 : decode cX5_requirePlace 17 = .ok (.invokespecial 288, 3) := by decide +kernel
theorem dX5_requirePlace_20 : decode cX5_requirePlace 20 = .ok (.athrow, 1) := by decide +kernel
theorem dX5_requirePlace_21 : decode cX5_requirePlace 21 = .ok (.return_, 1) := by decide +kernel
theorem dX5_requireScribe_0 : decode cX5_requireScribe 0 = .ok (.iload_n 0, 1) := by decide +kernel
theorem dX5_requireScribe_1 : decode cX5_requireScribe 1 = .ok (.ifCond .lt 9, 3) := by decide +kernel
theorem dX5_requireScribe_4 : decode cX5_requireScribe 4 = .ok (.iload_n 0, 1) := by decide +kernel
theorem dX5_requireScribe_5 : decode cX5_requireScribe 5 = .ok (.bipush 6, 2) := by decide +kernel
theorem dX5_requireScribe_7 : decode cX5_requireScribe 7 = .ok (.if_icmp .lt 14, 3) := by decide +kernel
theorem dX5_requireScribe_10 : decode cX5_requireScribe 10 = .ok (.new 284, 3) := by decide +kernel
theorem dX5_requireScribe_13 : decode cX5_requireScribe 13 = .ok (.dup, 1) := by decide +kernel
theorem dX5_requireScribe_14 : decode cX5_requireScribe 14 = .ok (.ldc_w 297, 3) := by decide +kernel
theorem dX5_requireScribe_17 : decode cX5_requireScribe 17 = .ok (.invokespecial 288, 3) := by decide +kernel
theorem dX5_requireScribe_20 : decode cX5_requireScribe 20 = .ok (.athrow, 1) := by decide +kernel
theorem dX5_requireScribe_21 : decode cX5_requireScribe 21 = .ok (.return_, 1) := by decide +kernel
set_option maxRecDepth 20000 in
theorem ggX5_requireError_X5_requirePlace : GoodIn wsX5_requireError wsX5_requirePlace := goodIn_ca (goodIn_r _ [6, 7, 8] (by decide +kernel) (by decide +kernel)) (goodIn_sub (fun _ h => List.mem_cons_of_mem _ (List.mem_append_right _ h)) (by decide +kernel))
set_option maxRecDepth 20000 in
theorem gX5_requireError_X5_requirePlace : GoodIn wsX5_requireError (va_wsS RX5 54 yX5_requirePlace wsX5_requirePlace) := goodIn_app (goodIn_of _ (by decide +kernel)) ggX5_requireError_X5_requirePlace
theorem dX5_requireError_0 : decode cX5_requireError 0 = .ok (.iload_n 0, 1) := by decide +kernel
theorem dX5_requireError_1 : decode cX5_requireError 1 = .ok (.invokestatic 54, 3) := by decide +kernel
theorem dX5_requireError_4 : decode cX5_requireError 4 = .ok (.iload_n 1, 1) := by decide +kernel
theorem dX5_requireError_5 : decode cX5_requireError 5 = .ok (.ifCond .le 9, 3) := by decide +kernel
theorem dX5_requireError_8 : decode cX5_requireError 8 = .ok (.iload_n 1, 1) := by decide +kernel
theorem dX5_requireError_9 : decode cX5_requireError 9 = .ok (.bipush 10, 2) := by decide +kernel
theorem dX5_requireError_11 : decode cX5_requireError 11 = .ok (.if_icmp .lt 14, 3) := by decide +kernel
theorem dX5_requireError_14 : decode cX5_requireError 14 = .ok (.new 57, 3) := by decide +kernel
theorem dX5_requireError_17 : decode cX5_requireError 17 = .ok (.dup, 1) := by decide +kernel
theorem dX5_requireError_18 : decode cX5_requireError 18 = .ok (.ldc_w 299, 3) := by decide +kernel
theorem dX5_requireError_21 : decode cX5_requireError 21 = .ok (.invokespecial 61, 3) := by decide +kernel
theorem dX5_requireError_24 : decode cX5_requireError 24 = .ok (.athrow, 1) := by decide +kernel
theorem dX5_requireError_25 : decode cX5_requireError 25 = .ok (.return_, 1) := by decide +kernel
theorem dX5_numberOf_0 : decode cX5_numberOf 0 = .ok (.aload_n 0, 1) := by decide +kernel
theorem dX5_numberOf_1 : decode cX5_numberOf 1 = .ok (.ifnonnull 7, 3) := by decide +kernel
theorem dX5_numberOf_4 : decode cX5_numberOf 4 = .ok (.iconst (-1), 1) := by decide +kernel
theorem dX5_numberOf_5 : decode cX5_numberOf 5 = .ok (.goto 7, 3) := by decide +kernel
theorem dX5_numberOf_8 : decode cX5_numberOf 8 = .ok (.aload_n 0, 1) := by decide +kernel
theorem dX5_numberOf_9 : decode cX5_numberOf 9 = .ok (.getfield 118, 3) := by decide +kernel
theorem dX5_numberOf_12 : decode cX5_numberOf 12 = .ok (.ireturn, 1) := by decide +kernel
set_option maxRecDepth 20000 in
theorem ggX5_enterFamily_Jx4a65c_size_8abf5 : GoodIn wsX5_enterFamily wsJx4a65c_size_8abf5 := goodIn_r _ [9, 10, 70, 71, 72] (by decide +kernel) (by decide +kernel)
set_option maxRecDepth 20000 in
theorem gX5_enterFamily_Jx4a65c_size_8abf5 : GoodIn wsX5_enterFamily (wsV RX5 97 RJx4a65c yJx4a65c_size_8abf5 wsJx4a65c_size_8abf5) := goodIn_app (goodIn_of _ (by decide +kernel)) ggX5_enterFamily_Jx4a65c_size_8abf5
set_option maxRecDepth 20000 in
theorem ggX5_enterFamily_Jx4a65c_get_915e3 : GoodIn wsX5_enterFamily wsJx4a65c_get_915e3 := goodIn_r _ [14, 10, 15, 16, 17, 18, 19, 20, 21, 22, 23, 24, 25, 8, 26, 27, 70, 71, 72] (by decide +kernel) (by decide +kernel)
set_option maxRecDepth 20000 in
theorem gX5_enterFamily_Jx4a65c_get_915e3 : GoodIn wsX5_enterFamily (wsV RX5 162 RJx4a65c yJx4a65c_get_915e3 wsJx4a65c_get_915e3) := goodIn_app (goodIn_of _ (by decide +kernel)) ggX5_enterFamily_Jx4a65c_get_915e3
set_option maxRecDepth 20000 in
theorem ggX5_enterFamily_X0_isKinOf : GoodIn wsX5_enterFamily wsX0_isKinOf := goodIn_r _ [32, 33, 34, 35, 31, 36, 37, 38, 39, 40, 41, 42, 43, 56, 57, 58, 59, 60, 61, 62] (by decide +kernel) (by decide +kernel)
set_option maxRecDepth 20000 in
theorem gX5_enterFamily_X0_isKinOf : GoodIn wsX5_enterFamily (wsV RX5 301 RX0 yX0_isKinOf wsX0_isKinOf) := goodIn_app (goodIn_of _ (by decide +kernel)) ggX5_enterFamily_X0_isKinOf
set_option maxRecDepth 20000 in
theorem ggX5_enterFamily_X5_joinFamilies : GoodIn wsX5_enterFamily wsX5_joinFamilies := goodIn_r _ [48, 49, 50, 51, 52, 53, 54, 55, 3, 4, 2, 5, 6, 7, 8, 9, 10, 11, 12, 13, 14, 15, 16, 17, 18, 19, 20, 21, 22, 23, 24, 25, 26, 27, 63, 64, 65, 66, 67, 68, 69, 56, 57, 58, 59, 60, 61, 62, 70, 71, 72] (by decide +kernel) (by decide +kernel)
set_option maxRecDepth 20000 in
theorem gX5_enterFamily_X5_joinFamilies : GoodIn wsX5_enterFamily (wsV RX5 130 RX5 yX5_joinFamilies wsX5_joinFamilies) := goodIn_app (goodIn_of _ (by decide +kernel)) ggX5_enterFamily_X5_joinFamilies
theorem dX5_enterFamily_0 : decode cX5_enterFamily 0 = .ok (.aload_n 1, 1) := by decide +kernel
theorem dX5_enterFamily_1 : decode cX5_enterFamily 1 = .ok (.aload_n 1, 1) := by decide +kernel
theorem dX5_enterFamily_2 : decode cX5_enterFamily 2 = .ok (.getfield 118, 3) := by decide +kernel
theorem dX5_enterFamily_5 : decode cX5_enterFamily 5 = .ok (.putfield 127, 3) := by decide +kernel
theorem dX5_enterFamily_8 : decode cX5_enterFamily 8 = .ok (.iconst 0, 1) := by decide +kernel
theorem dX5_enterFamily_9 : decode cX5_enterFamily 9 = .ok (.istore_n 2, 1) := by decide +kernel
theorem dX5_enterFamily_10 : decode cX5_enterFamily 10 = .ok (.iload_n 2, 1) := by decide +kernel
theorem dX5_enterFamily_11 : decode cX5_enterFamily 11 = .ok (.aload_n 1, 1) := by decide +kernel
theorem dX5_enterFamily_12 : decode cX5_enterFamily 12 = .ok (.getfield 118, 3) := by decide +kernel
theorem dX5_enterFamily_15 : decode cX5_enterFamily 15 = .ok (.if_icmp .ge 63, 3) := by decide +kernel
theorem dX5_enterFamily_18 : decode cX5_enterFamily 18 = .ok (.iload_n 2, 1) := by decide +kernel
theorem dX5_enterFamily_19 : decode cX5_enterFamily 19 = .ok (.aload_n 0, 1) := by decide +kernel
theorem dX5_enterFamily_20 : decode cX5_enterFamily 20 = .ok (.getfield 16, 3) := by decide +kernel
theorem dX5_enterFamily_23 : decode cX5_enterFamily 23 = .ok (.invokevirtual 97, 3) := by decide +kernel
theorem dX5_enterFamily_26 : decode cX5_enterFamily 26 = .ok (.if_icmp .ge 52, 3) := by decide +kernel
theorem dX5_enterFamily_29 : decode cX5_enterFamily 29 = .ok (.aload_n 0, 1) := by decide +kernel
theorem dX5_enterFamily_30 : decode cX5_enterFamily 30 = .ok (.getfield 16, 3) := by decide +kernel
theorem dX5_enterFamily_33 : decode cX5_enterFamily 33 = .ok (.iload_n 2, 1) := by decide +kernel
theorem dX5_enterFamily_34 : decode cX5_enterFamily 34 = .ok (.invokevirtual 162, 3) := by decide +kernel
theorem dX5_enterFamily_37 : decode cX5_enterFamily 37 = .ok (.checkcast 49, 3) := by decide +kernel
theorem dX5_enterFamily_40 : decode cX5_enterFamily 40 = .ok (.astore_n 3, 1) := by decide +kernel
theorem dX5_enterFamily_41 : decode cX5_enterFamily 41 = .ok (.aload_n 3, 1) := by decide +kernel
theorem dX5_enterFamily_42 : decode cX5_enterFamily 42 = .ok (.getfield 127, 3) := by decide +kernel
theorem dX5_enterFamily_45 : decode cX5_enterFamily 45 = .ok (.aload_n 1, 1) := by decide +kernel
theorem dX5_enterFamily_46 : decode cX5_enterFamily 46 = .ok (.getfield 127, 3) := by decide +kernel
theorem dX5_enterFamily_49 : decode cX5_enterFamily 49 = .ok (.if_icmp .eq 23, 3) := by decide +kernel
theorem dX5_enterFamily_52 : decode cX5_enterFamily 52 = .ok (.aload_n 1, 1) := by decide +kernel
theorem dX5_enterFamily_53 : decode cX5_enterFamily 53 = .ok (.aload_n 3, 1) := by decide +kernel
theorem dX5_enterFamily_54 : decode cX5_enterFamily 54 = .ok (.invokevirtual 301, 3) := by decide +kernel
theorem dX5_enterFamily_57 : decode cX5_enterFamily 57 = .ok (.ifCond .eq 15, 3) := by decide +kernel
theorem dX5_enterFamily_60 : decode cX5_enterFamily 60 = .ok (.aload_n 0, 1) := by decide +kernel
theorem dX5_enterFamily_61 : decode cX5_enterFamily 61 = .ok (.aload_n 3, 1) := by decide +kernel
theorem dX5_enterFamily_62 : decode cX5_enterFamily 62 = .ok (.getfield 127, 3) := by decide +kernel
theorem dX5_enterFamily_65 : decode cX5_enterFamily 65 = .ok (.aload_n 1, 1) := by decide +kernel
theorem dX5_enterFamily_66 : decode cX5_enterFamily 66 = .ok (.getfield 127, 3) := by decide +kernel
theorem dX5_enterFamily_69 : decode cX5_enterFamily 69 = .ok (.invokevirtual 130, 3) := by decide +kernel
theorem dX5_enterFamily_72 : decode cX5_enterFamily 72 = .ok (.iinc 2 1, 3) := by decide +kernel
theorem dX5_enterFamily_75 : decode cX5_enterFamily 75 = .ok (.goto (-65), 3) := by decide +kernel
theorem dX5_enterFamily_78 : decode cX5_enterFamily 78 = .ok (.return_, 1) := by decide +kernel
set_option maxRecDepth 20000 in
theorem ggX5_joinFamilies_Jx4a65c_size_8abf5 : GoodIn wsX5_joinFamilies wsJx4a65c_size_8abf5 := goodIn_r _ [15, 16, 48, 49, 50] (by decide +kernel) (by decide +kernel)
set_option maxRecDepth 20000 in
theorem gX5_joinFamilies_Jx4a65c_size_8abf5 : GoodIn wsX5_joinFamilies (wsV RX5 97 RJx4a65c yJx4a65c_size_8abf5 wsJx4a65c_size_8abf5) := goodIn_app (goodIn_of _ (by decide +kernel)) ggX5_joinFamilies_Jx4a65c_size_8abf5
set_option maxRecDepth 20000 in
theorem ggX5_joinFamilies_Jx4a65c_get_915e3 : GoodIn wsX5_joinFamilies wsJx4a65c_get_915e3 := goodIn_r _ [20, 16, 21, 22, 23, 24, 25, 26, 27, 28, 29, 30, 31, 14, 32, 33, 48, 49, 50] (by decide +kernel) (by decide +kernel)
set_option maxRecDepth 20000 in
theorem gX5_joinFamilies_Jx4a65c_get_915e3 : GoodIn wsX5_joinFamilies (wsV RX5 162 RJx4a65c yJx4a65c_get_915e3 wsJx4a65c_get_915e3) := goodIn_app (goodIn_of _ (by decide +kernel)) ggX5_joinFamilies_Jx4a65c_get_915e3
theorem dX5_joinFamilies_0 : decode cX5_joinFamilies 0 = .ok (.iload_n 1, 1) := by decide +kernel
theorem dX5_joinFamilies_1 : decode cX5_joinFamilies 1 = .ok (.iload_n 2, 1) := by decide +kernel
theorem dX5_joinFamilies_2 : decode cX5_joinFamilies 2 = .ok (.invokestatic 304, 3) := by decide +kernel
theorem dX5_joinFamilies_5 : decode cX5_joinFamilies 5 = .ok (.istore_n 3, 1) := by decide +kernel
theorem dX5_joinFamilies_6 : decode cX5_joinFamilies 6 = .ok (.iload_n 1, 1) := by decide +kernel
theorem dX5_joinFamilies_7 : decode cX5_joinFamilies 7 = .ok (.iload_n 2, 1) := by decide +kernel
theorem dX5_joinFamilies_8 : decode cX5_joinFamilies 8 = .ok (.invokestatic 310, 3) := by decide +kernel
theorem dX5_joinFamilies_11 : decode cX5_joinFamilies 11 = .ok (.istore 4, 2) := by decide +kernel
theorem dX5_joinFamilies_13 : decode cX5_joinFamilies 13 = .ok (.iconst 0, 1) := by decide +kernel
theorem dX5_joinFamilies_14 : decode cX5_joinFamilies 14 = .ok (.istore 5, 2) := by decide +kernel
theorem dX5_joinFamilies_16 : decode cX5_joinFamilies 16 = .ok (.iload 5, 2) := by decide +kernel
theorem dX5_joinFamilies_18 : decode cX5_joinFamilies 18 = .ok (.aload_n 0, 1) := by decide +kernel
theorem dX5_joinFamilies_19 : decode cX5_joinFamilies 19 = .ok (.getfield 16, 3) := by decide +kernel
theorem dX5_joinFamilies_22 : decode cX5_joinFamilies 22 = .ok (.invokevirtual 97, 3) := by decide +kernel
theorem dX5_joinFamilies_25 : decode cX5_joinFamilies 25 = .ok (.if_icmp .ge 39, 3) := by decide +kernel
theorem dX5_joinFamilies_28 : decode cX5_joinFamilies 28 = .ok (.aload_n 0, 1) := by decide +kernel
theorem dX5_joinFamilies_29 : decode cX5_joinFamilies 29 = .ok (.getfield 16, 3) := by decide +kernel
theorem dX5_joinFamilies_32 : decode cX5_joinFamilies 32 = .ok (.iload 5, 2) := by decide +kernel
theorem dX5_joinFamilies_34 : decode cX5_joinFamilies 34 = .ok (.invokevirtual 162, 3) := by decide +kernel
theorem dX5_joinFamilies_37 : decode cX5_joinFamilies 37 = .ok (.checkcast 49, 3) := by decide +kernel
theorem dX5_joinFamilies_40 : decode cX5_joinFamilies 40 = .ok (.astore 6, 2) := by decide +kernel
theorem dX5_joinFamilies_42 : decode cX5_joinFamilies 42 = .ok (.aload 6, 2) := by decide +kernel
theorem dX5_joinFamilies_44 : decode cX5_joinFamilies 44 = .ok (.getfield 127, 3) := by decide +kernel
theorem dX5_joinFamilies_47 : decode cX5_joinFamilies 47 = .ok (.iload 4, 2) := by decide +kernel
theorem dX5_joinFamilies_49 : decode cX5_joinFamilies 49 = .ok (.if_icmp .ne 9, 3) := by decide +kernel
theorem dX5_joinFamilies_52 : decode cX5_joinFamilies 52 = .ok (.aload 6, 2) := by decide +kernel
theorem dX5_joinFamilies_54 : decode cX5_joinFamilies 54 = .ok (.iload_n 3, 1) := by decide +kernel
theorem dX5_joinFamilies_55 : decode cX5_joinFamilies 55 = .ok (.putfield 127, 3) := by decide +kernel
theorem dX5_joinFamilies_58 : decode cX5_joinFamilies 58 = .ok (.iinc 5 1, 3) := by decide +kernel
theorem dX5_joinFamilies_61 : decode cX5_joinFamilies 61 = .ok (.goto (-45), 3) := by decide +kernel
theorem dX5_joinFamilies_64 : decode cX5_joinFamilies 64 = .ok (.return_, 1) := by decide +kernel
set_option maxRecDepth 20000 in
theorem ggX5_findFamiliesAnew_Jx4a65c_size_8abf5 : GoodIn wsX5_findFamiliesAnew wsJx4a65c_size_8abf5 := goodIn_r _ [7, 8, 67, 68, 69] (by decide +kernel) (by decide +kernel)
set_option maxRecDepth 20000 in
theorem gX5_findFamiliesAnew_Jx4a65c_size_8abf5 : GoodIn wsX5_findFamiliesAnew (wsV RX5 97 RJx4a65c yJx4a65c_size_8abf5 wsJx4a65c_size_8abf5) := goodIn_app (goodIn_of _ (by decide +kernel)) ggX5_findFamiliesAnew_Jx4a65c_size_8abf5
set_option maxRecDepth 20000 in
theorem ggX5_findFamiliesAnew_Jx4a65c_get_915e3 : GoodIn wsX5_findFamiliesAnew wsJx4a65c_get_915e3 := goodIn_r _ [12, 8, 13, 14, 15, 16, 17, 18, 19, 20, 21, 22, 23, 6, 24, 25, 67, 68, 69] (by decide +kernel) (by decide +kernel)
set_option maxRecDepth 20000 in
theorem gX5_findFamiliesAnew_Jx4a65c_get_915e3 : GoodIn wsX5_findFamiliesAnew (wsV RX5 162 RJx4a65c yJx4a65c_get_915e3 wsJx4a65c_get_915e3) := goodIn_app (goodIn_of _ (by decide +kernel)) ggX5_findFamiliesAnew_Jx4a65c_get_915e3
set_option maxRecDepth 20000 in
theorem ggX5_findFamiliesAnew_X5_enterFamily : GoodIn wsX5_findFamiliesAnew wsX5_enterFamily := goodIn_r _ [30, 31, 32, 1, 2, 3, 4, 5, 6, 7, 8, 9, 10, 11, 12, 13, 14, 15, 16, 17, 18, 19, 20, 21, 22, 23, 24, 25, 33, 34, 35, 36, 37, 38, 39, 40, 41, 42, 43, 44, 45, 46, 47, 48, 49, 50, 51, 29, 52, 53, 54, 55, 56, 57, 58, 59, 70, 71, 72, 73, 74, 75, 76, 60, 61, 62, 63, 64, 65, 66, 67, 68, 69] (by decide +kernel) (by decide +kernel)
set_option maxRecDepth 20000 in
theorem gX5_findFamiliesAnew_X5_enterFamily : GoodIn wsX5_findFamiliesAnew (wsV RX5 114 RX5 yX5_enterFamily wsX5_enterFamily) := goodIn_app (goodIn_of _ (by decide +kernel)) ggX5_findFamiliesAnew_X5_enterFamily
theorem dX5_findFamiliesAnew_0 : decode cX5_findFamiliesAnew 0 = .ok (.iconst 0, 1) := by decide +kernel
theorem dX5_findFamiliesAnew_1 : decode cX5_findFamiliesAnew 1 = .ok (.istore_n 1, 1) := by decide +kernel
theorem dX5_findFamiliesAnew_2 : decode cX5_findFamiliesAnew 2 = .ok (.iload_n 1, 1) := by decide +kernel
theorem dX5_findFamiliesAnew_3 : decode cX5_findFamiliesAnew 3 = .ok (.aload_n 0, 1) := by decide +kernel
theorem dX5_findFamiliesAnew_4 : decode cX5_findFamiliesAnew 4 = .ok (.getfield 16, 3) := by decide +kernel
theorem dX5_findFamiliesAnew_7 : decode cX5_findFamiliesAnew 7 = .ok (.invokevirtual 97, 3) := by decide +kernel
theorem dX5_findFamiliesAnew_10 : decode cX5_findFamiliesAnew 10 = .ok (.if_icmp .ge 24, 3) := by decide +kernel
theorem dX5_findFamiliesAnew_13 : decode cX5_findFamiliesAnew 13 = .ok (.aload_n 0, 1) := by decide +kernel
theorem dX5_findFamiliesAnew_14 : decode cX5_findFamiliesAnew 14 = .ok (.aload_n 0, 1) := by decide +kernel
theorem dX5_findFamiliesAnew_15 : decode cX5_findFamiliesAnew 15 = .ok (.getfield 16, 3) := by decide +kernel
theorem dX5_findFamiliesAnew_18 : decode cX5_findFamiliesAnew 18 = .ok (.iload_n 1, 1) := by decide +kernel
theorem dX5_findFamiliesAnew_19 : decode cX5_findFamiliesAnew 19 = .ok (.invokevirtual 162, 3) := by decide +kernel
theorem dX5_findFamiliesAnew_22 : decode cX5_findFamiliesAnew 22 = .ok (.checkcast 49, 3) := by decide +kernel
theorem dX5_findFamiliesAnew_25 : decode cX5_findFamiliesAnew 25 = .ok (.invokevirtual 114, 3) := by decide +kernel
theorem dX5_findFamiliesAnew_28 : decode cX5_findFamiliesAnew 28 = .ok (.iinc 1 1, 3) := by decide +kernel
theorem dX5_findFamiliesAnew_31 : decode cX5_findFamiliesAnew 31 = .ok (.goto (-29), 3) := by decide +kernel
theorem dX5_findFamiliesAnew_34 : decode cX5_findFamiliesAnew 34 = .ok (.return_, 1) := by decide +kernel
theorem dX5_setOf_0 : decode cX5_setOf 0 = .ok (.lconst 1, 1) := by decide +kernel
theorem dX5_setOf_1 : decode cX5_setOf 1 = .ok (.aload_n 0, 1) := by decide +kernel
theorem dX5_setOf_2 : decode cX5_setOf 2 = .ok (.getfield 118, 3) := by decide +kernel
theorem dX5_setOf_5 : decode cX5_setOf 5 = .ok (.lshl, 1) := by decide +kernel
theorem dX5_setOf_6 : decode cX5_setOf 6 = .ok (.lreturn, 1) := by decide +kernel
set_option maxRecDepth 20000 in
theorem ggX5_lowestIn_Jx4a65c_size_8abf5 : GoodIn wsX5_lowestIn wsJx4a65c_size_8abf5 := goodIn_r _ [7, 8, 38, 39, 40] (by decide +kernel) (by decide +kernel)
set_option maxRecDepth 20000 in
theorem gX5_lowestIn_Jx4a65c_size_8abf5 : GoodIn wsX5_lowestIn (wsV RX5 97 RJx4a65c yJx4a65c_size_8abf5 wsJx4a65c_size_8abf5) := goodIn_app (goodIn_of _ (by decide +kernel)) ggX5_lowestIn_Jx4a65c_size_8abf5
set_option maxRecDepth 20000 in
theorem ggX5_lowestIn_Jx4a65c_get_915e3 : GoodIn wsX5_lowestIn wsJx4a65c_get_915e3 := goodIn_r _ [12, 8, 13, 14, 15, 16, 17, 18, 19, 20, 21, 22, 23, 6, 24, 25, 38, 39, 40] (by decide +kernel) (by decide +kernel)
set_option maxRecDepth 20000 in
theorem gX5_lowestIn_Jx4a65c_get_915e3 : GoodIn wsX5_lowestIn (wsV RX5 162 RJx4a65c yJx4a65c_get_915e3 wsJx4a65c_get_915e3) := goodIn_app (goodIn_of _ (by decide +kernel)) ggX5_lowestIn_Jx4a65c_get_915e3
set_option maxRecDepth 20000 in
theorem ggX5_lowestIn_X5_setOf : GoodIn wsX5_lowestIn wsX5_setOf := goodIn_r _ [29, 30, 41, 42, 43, 44, 45, 46, 47] (by decide +kernel) (by decide +kernel)
set_option maxRecDepth 20000 in
theorem gX5_lowestIn_X5_setOf : GoodIn wsX5_lowestIn (va_wsS RX5 240 yX5_setOf wsX5_setOf) := goodIn_app (goodIn_of _ (by decide +kernel)) ggX5_lowestIn_X5_setOf
theorem dX5_lowestIn_0 : decode cX5_lowestIn 0 = .ok (.iconst 0, 1) := by decide +kernel
theorem dX5_lowestIn_1 : decode cX5_lowestIn 1 = .ok (.istore_n 3, 1) := by decide +kernel
theorem dX5_lowestIn_2 : decode cX5_lowestIn 2 = .ok (.iload_n 3, 1) := by decide +kernel
theorem dX5_lowestIn_3 : decode cX5_lowestIn 3 = .ok (.aload_n 0, 1) := by decide +kernel
theorem dX5_lowestIn_4 : decode cX5_lowestIn 4 = .ok (.getfield 16, 3) := by decide +kernel
theorem dX5_lowestIn_7 : decode cX5_lowestIn 7 = .ok (.invokevirtual 97, 3) := by decide +kernel
theorem dX5_lowestIn_10 : decode cX5_lowestIn 10 = .ok (.if_icmp .ge 32, 3) := by decide +kernel
theorem dX5_lowestIn_13 : decode cX5_lowestIn 13 = .ok (.lload_n 1, 1) := by decide +kernel
theorem dX5_lowestIn_14 : decode cX5_lowestIn 14 = .ok (.aload_n 0, 1) := by decide +kernel
theorem dX5_lowestIn_15 : decode cX5_lowestIn 15 = .ok (.getfield 16, 3) := by decide +kernel
theorem dX5_lowestIn_18 : decode cX5_lowestIn 18 = .ok (.iload_n 3, 1) := by decide +kernel
theorem dX5_lowestIn_19 : decode cX5_lowestIn 19 = .ok (.invokevirtual 162, 3) := by decide +kernel
theorem dX5_lowestIn_22 : decode cX5_lowestIn 22 = .ok (.checkcast 49, 3) := by decide +kernel
theorem dX5_lowestIn_25 : decode cX5_lowestIn 25 = .ok (.invokestatic 240, 3) := by decide +kernel
theorem dX5_lowestIn_28 : decode cX5_lowestIn 28 = .ok (.land, 1) := by decide +kernel
theorem dX5_lowestIn_29 : decode cX5_lowestIn 29 = .ok (.lconst 0, 1) := by decide +kernel
theorem dX5_lowestIn_30 : decode cX5_lowestIn 30 = .ok (.lcmp, 1) := by decide +kernel
theorem dX5_lowestIn_31 : decode cX5_lowestIn 31 = .ok (.ifCond .eq 5, 3) := by decide +kernel
theorem dX5_lowestIn_34 : decode cX5_lowestIn 34 = .ok (.iload_n 3, 1) := by decide +kernel
theorem dX5_lowestIn_35 : decode cX5_lowestIn 35 = .ok (.ireturn, 1) := by decide +kernel
theorem dX5_lowestIn_36 : decode cX5_lowestIn 36 = .ok (.iinc 3 1, 3) := by decide +kernel
theorem dX5_lowestIn_39 : decode cX5_lowestIn 39 = .ok (.goto (-37), 3) := by decide +kernel
theorem dX5_lowestIn_42 : decode cX5_lowestIn 42 = .ok (.iconst (-1), 1) := by decide +kernel
theorem dX5_lowestIn_43 : decode cX5_lowestIn 43 = .ok (.ireturn, 1) := by decide +kernel
set_option maxRecDepth 20000 in
theorem ggX5_copiesThatRead_Jx4a65c_size_8abf5 : GoodIn wsX5_copiesThatRead wsJx4a65c_size_8abf5 := goodIn_r _ [8, 9, 46, 47, 48] (by decide +kernel) (by decide +kernel)
set_option maxRecDepth 20000 in
theorem gX5_copiesThatRead_Jx4a65c_size_8abf5 : GoodIn wsX5_copiesThatRead (wsV RX5 97 RJx4a65c yJx4a65c_size_8abf5 wsJx4a65c_size_8abf5) := goodIn_app (goodIn_of _ (by decide +kernel)) ggX5_copiesThatRead_Jx4a65c_size_8abf5
set_option maxRecDepth 20000 in
theorem ggX5_copiesThatRead_Jx4a65c_get_915e3 : GoodIn wsX5_copiesThatRead wsJx4a65c_get_915e3 := goodIn_r _ [13, 9, 14, 15, 16, 17, 18, 19, 20, 21, 22, 23, 24, 7, 25, 26, 46, 47, 48] (by decide +kernel) (by decide +kernel)
set_option maxRecDepth 20000 in
theorem gX5_copiesThatRead_Jx4a65c_get_915e3 : GoodIn wsX5_copiesThatRead (wsV RX5 162 RJx4a65c yJx4a65c_get_915e3 wsJx4a65c_get_915e3) := goodIn_app (goodIn_of _ (by decide +kernel)) ggX5_copiesThatRead_Jx4a65c_get_915e3
set_option maxRecDepth 20000 in
theorem ggX5_copiesThatRead_X5_setOf : GoodIn wsX5_copiesThatRead wsX5_setOf := goodIn_r _ [30, 31, 39, 40, 41, 42, 43, 44, 45] (by decide +kernel) (by decide +kernel)
set_option maxRecDepth 20000 in
theorem gX5_copiesThatRead_X5_setOf : GoodIn wsX5_copiesThatRead (va_wsS RX5 240 yX5_setOf wsX5_setOf) := goodIn_app (goodIn_of _ (by decide +kernel)) ggX5_copiesThatRead_X5_setOf
theorem dX5_copiesThatRead_0 : decode cX5_copiesThatRead 0 = .ok (.iload_n 1, 1) := by decide +kernel
theorem dX5_copiesThatRead_1 : decode cX5_copiesThatRead 1 = .ok (.ifCond .lt 9, 3) := by decide +kernel
theorem dX5_copiesThatRead_4 : decode cX5_copiesThatRead 4 = .ok (.iload_n 1, 1) := by decide +kernel
theorem dX5_copiesThatRead_5 : decode cX5_copiesThatRead 5 = .ok (.bipush 24, 2) := by decide +kernel
theorem dX5_copiesThatRead_7 : decode cX5_copiesThatRead 7 = .ok (.if_icmp .lt 5, 3) := by decide +kernel
theorem dX5_copiesThatRead_10 : decode cX5_copiesThatRead 10 = .ok (.lconst 0, 1) := by decide +kernel
theorem dX5_copiesThatRead_11 : decode cX5_copiesThatRead 11 = .ok (.lreturn, 1) := by decide +kernel
theorem dX5_copiesThatRead_12 : decode cX5_copiesThatRead 12 = .ok (.lconst 0, 1) := by decide +kernel
theorem dX5_copiesThatRead_13 : decode cX5_copiesThatRead 13 = .ok (.lstore_n 3, 1) := by decide +kernel
theorem dX5_copiesThatRead_14 : decode cX5_copiesThatRead 14 = .ok (.iconst 0, 1) := by decide +kernel
theorem dX5_copiesThatRead_15 : decode cX5_copiesThatRead 15 = .ok (.istore 5, 2) := by decide +kernel
theorem dX5_copiesThatRead_17 : decode cX5_copiesThatRead 17 = .ok (.iload 5, 2) := by decide +kernel
theorem dX5_copiesThatRead_19 : decode cX5_copiesThatRead 19 = .ok (.aload_n 0, 1) := by decide +kernel
theorem dX5_copiesThatRead_20 : decode cX5_copiesThatRead 20 = .ok (.getfield 16, 3) := by decide +kernel
theorem dX5_copiesThatRead_23 : decode cX5_copiesThatRead 23 = .ok (.invokevirtual 97, 3) := by decide +kernel
theorem dX5_copiesThatRead_26 : decode cX5_copiesThatRead 26 = .ok (.if_icmp .ge 42, 3) := by decide +kernel
theorem dX5_copiesThatRead_29 : decode cX5_copiesThatRead 29 = .ok (.aload_n 0, 1) := by decide +kernel
theorem dX5_copiesThatRead_30 : decode cX5_copiesThatRead 30 = .ok (.getfield 16, 3) := by decide +kernel
theorem dX5_copiesThatRead_33 : decode cX5_copiesThatRead 33 = .ok (.iload 5, 2) := by decide +kernel
theorem dX5_copiesThatRead_35 : decode cX5_copiesThatRead 35 = .ok (.invokevirtual 162, 3) := by decide +kernel
theorem dX5_copiesThatRead_38 : decode cX5_copiesThatRead 38 = .ok (.checkcast 49, 3) := by decide +kernel
theorem dX5_copiesThatRead_41 : decode cX5_copiesThatRead 41 = .ok (.astore 6, 2) := by decide +kernel
theorem dX5_copiesThatRead_43 : decode cX5_copiesThatRead 43 = .ok (.aload 6, 2) := by decide +kernel
theorem dX5_copiesThatRead_45 : decode cX5_copiesThatRead 45 = .ok (.getfield 139, 3) := by decide +kernel
theorem dX5_copiesThatRead_48 : decode cX5_copiesThatRead 48 = .ok (.iload_n 1, 1) := by decide +kernel
theorem dX5_copiesThatRead_49 : decode cX5_copiesThatRead 49 = .ok (.iaload, 1) := by decide +kernel
theorem dX5_copiesThatRead_50 : decode cX5_copiesThatRead 50 = .ok (.iload_n 2, 1) := by decide +kernel
theorem dX5_copiesThatRead_51 : decode cX5_copiesThatRead 51 = .ok (.if_icmp .ne 11, 3) := by decide +kernel
theorem dX5_copiesThatRead_54 : decode cX5_copiesThatRead 54 = .ok (.lload_n 3, 1) := by decide +kernel
theorem dX5_copiesThatRead_55 : decode cX5_copiesThatRead 55 = .ok (.aload 6, 2) := by decide +kernel
theorem dX5_copiesThatRead_57 : decode cX5_copiesThatRead 57 = .ok (.invokestatic 240, 3) := by decide +kernel
theorem dX5_copiesThatRead_60 : decode cX5_copiesThatRead 60 = .ok (.lor, 1) := by decide +kernel
theorem dX5_copiesThatRead_61 : decode cX5_copiesThatRead 61 = .ok (.lstore_n 3, 1) := by decide +kernel
theorem dX5_copiesThatRead_62 : decode cX5_copiesThatRead 62 = .ok (.iinc 5 1, 3) := by decide +kernel
theorem dX5_copiesThatRead_65 : decode cX5_copiesThatRead 65 = .ok (.goto (-48), 3) := by decide +kernel
theorem dX5_copiesThatRead_68 : decode cX5_copiesThatRead 68 = .ok (.lload_n 3, 1) := by decide +kernel
theorem dX5_copiesThatRead_69 : decode cX5_copiesThatRead 69 = .ok (.lreturn, 1) := by decide +kernel
set_option maxRecDepth 20000 in
theorem ggX5_kinByErrors_X5_copiesThatRead : GoodIn wsX5_kinByErrors wsX5_copiesThatRead := goodIn_r _ [6, 7, 8, 1, 9, 10, 11, 12, 13, 14, 15, 16, 17, 18, 19, 20, 21, 22, 23, 24, 25, 26, 27, 28, 29, 30, 31, 32, 33, 5, 34, 35, 43, 44, 45, 46, 47, 48, 49, 36, 37, 38, 39, 40, 41, 42, 50, 51, 52] (by decide +kernel) (by decide +kernel)
set_option maxRecDepth 20000 in
theorem gX5_kinByErrors_X5_copiesThatRead : GoodIn wsX5_kinByErrors (wsV RX5 263 RX5 yX5_copiesThatRead wsX5_copiesThatRead) := goodIn_app (goodIn_of _ (by decide +kernel)) ggX5_kinByErrors_X5_copiesThatRead
theorem dX5_kinByErrors_0 : decode cX5_kinByErrors 0 = .ok (.lconst 0, 1) := by decide +kernel
theorem dX5_kinByErrors_1 : decode cX5_kinByErrors 1 = .ok (.lstore_n 2, 1) := by decide +kernel
theorem dX5_kinByErrors_2 : decode cX5_kinByErrors 2 = .ok (.iconst 0, 1) := by decide +kernel
theorem dX5_kinByErrors_3 : decode cX5_kinByErrors 3 = .ok (.istore 4, 2) := by decide +kernel
theorem dX5_kinByErrors_5 : decode cX5_kinByErrors 5 = .ok (.iload 4, 2) := by decide +kernel
theorem dX5_kinByErrors_7 : decode cX5_kinByErrors 7 = .ok (.bipush 24, 2) := by decide +kernel
theorem dX5_kinByErrors_9 : decode cX5_kinByErrors 9 = .ok (.if_icmp .ge 34, 3) := by decide +kernel
theorem dX5_kinByErrors_12 : decode cX5_kinByErrors 12 = .ok (.aload_n 1, 1) := by decide +kernel
theorem dX5_kinByErrors_13 : decode cX5_kinByErrors 13 = .ok (.getfield 139, 3) := by decide +kernel
theorem dX5_kinByErrors_16 : decode cX5_kinByErrors 16 = .ok (.iload 4, 2) := by decide +kernel
theorem dX5_kinByErrors_18 : decode cX5_kinByErrors 18 = .ok (.iaload, 1) := by decide +kernel
theorem dX5_kinByErrors_19 : decode cX5_kinByErrors 19 = .ok (.istore 5, 2) := by decide +kernel
theorem dX5_kinByErrors_21 : decode cX5_kinByErrors 21 = .ok (.iload 5, 2) := by decide +kernel
theorem dX5_kinByErrors_23 : decode cX5_kinByErrors 23 = .ok (.ifCond .eq 14, 3) := by decide +kernel
theorem dX5_kinByErrors_26 : decode cX5_kinByErrors 26 = .ok (.lload_n 2, 1) := by decide +kernel
theorem dX5_kinByErrors_27 : decode cX5_kinByErrors 27 = .ok (.aload_n 0, 1) := by decide +kernel
theorem dX5_kinByErrors_28 : decode cX5_kinByErrors 28 = .ok (.iload 4, 2) := by decide +kernel
theorem dX5_kinByErrors_30 : decode cX5_kinByErrors 30 = .ok (.iload 5, 2) := by decide +kernel
theorem dX5_kinByErrors_32 : decode cX5_kinByErrors 32 = .ok (.invokevirtual 263, 3) := by decide +kernel
theorem dX5_kinByErrors_35 : decode cX5_kinByErrors 35 = .ok (.lor, 1) := by decide +kernel
theorem dX5_kinByErrors_36 : decode cX5_kinByErrors 36 = .ok (.lstore_n 2, 1) := by decide +kernel
theorem dX5_kinByErrors_37 : decode cX5_kinByErrors 37 = .ok (.iinc 4 1, 3) := by decide +kernel
theorem dX5_kinByErrors_40 : decode cX5_kinByErrors 40 = .ok (.goto (-35), 3) := by decide +kernel
theorem dX5_kinByErrors_43 : decode cX5_kinByErrors 43 = .ok (.lload_n 2, 1) := by decide +kernel
theorem dX5_kinByErrors_44 : decode cX5_kinByErrors 44 = .ok (.lreturn, 1) := by decide +kernel
set_option maxRecDepth 20000 in
theorem ggX5_kinByModels_X0_modelIfTold : GoodIn wsX5_kinByModels wsX0_modelIfTold := goodIn_r _ [7, 8, 9, 45, 46, 47, 48, 49, 50, 51] (by decide +kernel) (by decide +kernel)
set_option maxRecDepth 20000 in
theorem gX5_kinByModels_X0_modelIfTold : GoodIn wsX5_kinByModels (wsV RX5 233 RX0 yX0_modelIfTold wsX0_modelIfTold) := goodIn_app (goodIn_of _ (by decide +kernel)) ggX5_kinByModels_X0_modelIfTold
set_option maxRecDepth 20000 in
theorem ggX5_kinByModels_X5_setOf : GoodIn wsX5_kinByModels wsX5_setOf := goodIn_r _ [13, 14, 45, 46, 47, 48, 49, 50, 51] (by decide +kernel) (by decide +kernel)
set_option maxRecDepth 20000 in
theorem gX5_kinByModels_X5_setOf : GoodIn wsX5_kinByModels (va_wsS RX5 240 yX5_setOf wsX5_setOf) := goodIn_app (goodIn_of _ (by decide +kernel)) ggX5_kinByModels_X5_setOf
set_option maxRecDepth 20000 in
theorem ggX5_kinByModels_Jx4a65c_size_8abf5 : GoodIn wsX5_kinByModels wsJx4a65c_size_8abf5 := goodIn_r _ [19, 20, 52, 53, 54] (by decide +kernel) (by decide +kernel)
set_option maxRecDepth 20000 in
theorem gX5_kinByModels_Jx4a65c_size_8abf5 : GoodIn wsX5_kinByModels (wsV RX5 97 RJx4a65c yJx4a65c_size_8abf5 wsJx4a65c_size_8abf5) := goodIn_app (goodIn_of _ (by decide +kernel)) ggX5_kinByModels_Jx4a65c_size_8abf5
set_option maxRecDepth 20000 in
theorem ggX5_kinByModels_Jx4a65c_get_915e3 : GoodIn wsX5_kinByModels wsJx4a65c_get_915e3 := goodIn_r _ [24, 20, 25, 26, 27, 28, 29, 30, 31, 32, 33, 34, 35, 18, 36, 37, 52, 53, 54] (by decide +kernel) (by decide +kernel)
set_option maxRecDepth 20000 in
theorem gX5_kinByModels_Jx4a65c_get_915e3 : GoodIn wsX5_kinByModels (wsV RX5 162 RJx4a65c yJx4a65c_get_915e3 wsJx4a65c_get_915e3) := goodIn_app (goodIn_of _ (by decide +kernel)) ggX5_kinByModels_Jx4a65c_get_915e3
theorem dX5_kinByModels_0 : decode cX5_kinByModels 0 = .ok (.aload_n 1, 1) := by decide +kernel
theorem dX5_kinByModels_1 : decode cX5_kinByModels 1 = .ok (.invokevirtual 233, 3) := by decide +kernel
theorem dX5_kinByModels_4 : decode cX5_kinByModels 4 = .ok (.astore_n 2, 1) := by decide +kernel
theorem dX5_kinByModels_5 : decode cX5_kinByModels 5 = .ok (.aload_n 2, 1) := by decide +kernel
theorem dX5_kinByModels_6 : decode cX5_kinByModels 6 = .ok (.ifnonnull 7, 3) := by decide +kernel
theorem dX5_kinByModels_9 : decode cX5_kinByModels 9 = .ok (.lconst 0, 1) := by decide +kernel
theorem dX5_kinByModels_10 : decode cX5_kinByModels 10 = .ok (.goto 7, 3) := by decide +kernel
theorem dX5_kinByModels_13 : decode cX5_kinByModels 13 = .ok (.aload_n 2, 1) := by decide +kernel
theorem dX5_kinByModels_14 : decode cX5_kinByModels 14 = .ok (.invokestatic 240, 3) := by decide +kernel
theorem dX5_kinByModels_17 : decode cX5_kinByModels 17 = .ok (.lstore_n 3, 1) := by decide +kernel
theorem dX5_kinByModels_18 : decode cX5_kinByModels 18 = .ok (.iconst 0, 1) := by decide +kernel
theorem dX5_kinByModels_19 : decode cX5_kinByModels 19 = .ok (.istore 5, 2) := by decide +kernel
theorem dX5_kinByModels_21 : decode cX5_kinByModels 21 = .ok (.iload 5, 2) := by decide +kernel
theorem dX5_kinByModels_23 : decode cX5_kinByModels 23 = .ok (.aload_n 0, 1) := by decide +kernel
theorem dX5_kinByModels_24 : decode cX5_kinByModels 24 = .ok (.getfield 16, 3) := by decide +kernel
theorem dX5_kinByModels_27 : decode cX5_kinByModels 27 = .ok (.invokevirtual 97, 3) := by decide +kernel
theorem dX5_kinByModels_30 : decode cX5_kinByModels 30 = .ok (.if_icmp .ge 40, 3) := by decide +kernel
theorem dX5_kinByModels_33 : decode cX5_kinByModels 33 = .ok (.aload_n 0, 1) := by decide +kernel
theorem dX5_kinByModels_34 : decode cX5_kinByModels 34 = .ok (.getfield 16, 3) := by decide +kernel
theorem dX5_kinByModels_37 : decode cX5_kinByModels 37 = .ok (.iload 5, 2) := by decide +kernel
theorem dX5_kinByModels_39 : decode cX5_kinByModels 39 = .ok (.invokevirtual 162, 3) := by decide +kernel
theorem dX5_kinByModels_42 : decode cX5_kinByModels 42 = .ok (.checkcast 49, 3) := by decide +kernel
theorem dX5_kinByModels_45 : decode cX5_kinByModels 45 = .ok (.astore 6, 2) := by decide +kernel
theorem dX5_kinByModels_47 : decode cX5_kinByModels 47 = .ok (.aload 6, 2) := by decide +kernel
theorem dX5_kinByModels_49 : decode cX5_kinByModels 49 = .ok (.invokevirtual 233, 3) := by decide +kernel
theorem dX5_kinByModels_52 : decode cX5_kinByModels 52 = .ok (.aload_n 1, 1) := by decide +kernel
theorem dX5_kinByModels_53 : decode cX5_kinByModels 53 = .ok (.if_acmp .ne 11, 3) := by decide +kernel
theorem dX5_kinByModels_56 : decode cX5_kinByModels 56 = .ok (.lload_n 3, 1) := by decide +kernel
theorem dX5_kinByModels_57 : decode cX5_kinByModels 57 = .ok (.aload 6, 2) := by decide +kernel
theorem dX5_kinByModels_59 : decode cX5_kinByModels 59 = .ok (.invokestatic 240, 3) := by decide +kernel
theorem dX5_kinByModels_62 : decode cX5_kinByModels 62 = .ok (.lor, 1) := by decide +kernel
theorem dX5_kinByModels_63 : decode cX5_kinByModels 63 = .ok (.lstore_n 3, 1) := by decide +kernel
theorem dX5_kinByModels_64 : decode cX5_kinByModels 64 = .ok (.iinc 5 1, 3) := by decide +kernel
theorem dX5_kinByModels_67 : decode cX5_kinByModels 67 = .ok (.goto (-46), 3) := by decide +kernel
theorem dX5_kinByModels_70 : decode cX5_kinByModels 70 = .ok (.lload_n 3, 1) := by decide +kernel
theorem dX5_kinByModels_71 : decode cX5_kinByModels 71 = .ok (.lreturn, 1) := by decide +kernel
set_option maxRecDepth 20000 in
theorem ggX5_guessFor_X0_modelIfTold : GoodIn wsX5_guessFor wsX0_modelIfTold := goodIn_r _ [8, 9, 10, 48, 49, 50, 51, 52, 53, 54] (by decide +kernel) (by decide +kernel)
set_option maxRecDepth 20000 in
theorem gX5_guessFor_X0_modelIfTold : GoodIn wsX5_guessFor (wsV RX5 233 RX0 yX0_modelIfTold wsX0_modelIfTold) := goodIn_app (goodIn_of _ (by decide +kernel)) ggX5_guessFor_X0_modelIfTold
set_option maxRecDepth 20000 in
theorem ggX5_guessFor_Jx4a65c_size_8abf5 : GoodIn wsX5_guessFor wsJx4a65c_size_8abf5 := goodIn_r _ [15, 16, 62, 63, 64] (by decide +kernel) (by decide +kernel)
set_option maxRecDepth 20000 in
theorem gX5_guessFor_Jx4a65c_size_8abf5 : GoodIn wsX5_guessFor (wsV RX5 97 RJx4a65c yJx4a65c_size_8abf5 wsJx4a65c_size_8abf5) := goodIn_app (goodIn_of _ (by decide +kernel)) ggX5_guessFor_Jx4a65c_size_8abf5
set_option maxRecDepth 20000 in
theorem ggX5_guessFor_Jx4a65c_get_915e3 : GoodIn wsX5_guessFor wsJx4a65c_get_915e3 := goodIn_r _ [20, 16, 21, 22, 23, 24, 25, 26, 27, 28, 29, 30, 31, 14, 32, 33, 62, 63, 64] (by decide +kernel) (by decide +kernel)
set_option maxRecDepth 20000 in
theorem gX5_guessFor_Jx4a65c_get_915e3 : GoodIn wsX5_guessFor (wsV RX5 162 RJx4a65c yJx4a65c_get_915e3 wsJx4a65c_get_915e3) := goodIn_app (goodIn_of _ (by decide +kernel)) ggX5_guessFor_Jx4a65c_get_915e3
set_option maxRecDepth 20000 in
theorem ggX5_guessFor_X5_worthAsModel : GoodIn wsX5_guessFor wsX5_worthAsModel := goodIn_r _ [37, 38, 39, 40, 7, 41, 42, 43, 44, 45, 46, 47, 48, 49, 50, 51, 52, 53, 54] (by decide +kernel) (by decide +kernel)
set_option maxRecDepth 20000 in
theorem gX5_guessFor_X5_worthAsModel : GoodIn wsX5_guessFor (va_wsS RX5 313 yX5_worthAsModel wsX5_worthAsModel) := goodIn_app (goodIn_of _ (by decide +kernel)) ggX5_guessFor_X5_worthAsModel
theorem dX5_guessFor_0 : decode cX5_guessFor 0 = .ok (.aload_n 1, 1) := by decide +kernel
theorem dX5_guessFor_1 : decode cX5_guessFor 1 = .ok (.invokevirtual 233, 3) := by decide +kernel
theorem dX5_guessFor_4 : decode cX5_guessFor 4 = .ok (.astore_n 2, 1) := by decide +kernel
theorem dX5_guessFor_5 : decode cX5_guessFor 5 = .ok (.aload_n 2, 1) := by decide +kernel
theorem dX5_guessFor_6 : decode cX5_guessFor 6 = .ok (.ifnull 5, 3) := by decide +kernel
theorem dX5_guessFor_9 : decode cX5_guessFor 9 = .ok (.aload_n 2, 1) := by decide +kernel
theorem dX5_guessFor_10 : decode cX5_guessFor 10 = .ok (.areturn, 1) := by decide +kernel
theorem dX5_guessFor_11 : decode cX5_guessFor 11 = .ok (.aconst_null, 1) := by decide +kernel
theorem dX5_guessFor_12 : decode cX5_guessFor 12 = .ok (.astore_n 3, 1) := by decide +kernel
theorem dX5_guessFor_13 : decode cX5_guessFor 13 = .ok (.iconst 0, 1) := by decide +kernel
theorem dX5_guessFor_14 : decode cX5_guessFor 14 = .ok (.istore 4, 2) := by decide +kernel
theorem dX5_guessFor_16 : decode cX5_guessFor 16 = .ok (.iconst 0, 1) := by decide +kernel
theorem dX5_guessFor_17 : decode cX5_guessFor 17 = .ok (.istore 5, 2) := by decide +kernel
theorem dX5_guessFor_19 : decode cX5_guessFor 19 = .ok (.iload 5, 2) := by decide +kernel
theorem dX5_guessFor_21 : decode cX5_guessFor 21 = .ok (.aload_n 1, 1) := by decide +kernel
theorem dX5_guessFor_22 : decode cX5_guessFor 22 = .ok (.getfield 118, 3) := by decide +kernel
theorem dX5_guessFor_25 : decode cX5_guessFor 25 = .ok (.if_icmp .ge 61, 3) := by decide +kernel
theorem dX5_guessFor_28 : decode cX5_guessFor 28 = .ok (.iload 5, 2) := by decide +kernel
theorem dX5_guessFor_30 : decode cX5_guessFor 30 = .ok (.aload_n 0, 1) := by decide +kernel
theorem dX5_guessFor_31 : decode cX5_guessFor 31 = .ok (.getfield 16, 3) := by decide +kernel
theorem dX5_guessFor_34 : decode cX5_guessFor 34 = .ok (.invokevirtual 97, 3) := by decide +kernel
theorem dX5_guessFor_37 : decode cX5_guessFor 37 = .ok (.if_icmp .ge 49, 3) := by decide +kernel
theorem dX5_guessFor_40 : decode cX5_guessFor 40 = .ok (.aload_n 0, 1) := by decide +kernel
theorem dX5_guessFor_41 : decode cX5_guessFor 41 = .ok (.getfield 16, 3) := by decide +kernel
theorem dX5_guessFor_44 : decode cX5_guessFor 44 = .ok (.iload 5, 2) := by decide +kernel
theorem dX5_guessFor_46 : decode cX5_guessFor 46 = .ok (.invokevirtual 162, 3) := by decide +kernel
theorem dX5_guessFor_49 : decode cX5_guessFor 49 = .ok (.checkcast 49, 3) := by decide +kernel
theorem dX5_guessFor_52 : decode cX5_guessFor 52 = .ok (.astore 6, 2) := by decide +kernel
theorem dX5_guessFor_54 : decode cX5_guessFor 54 = .ok (.aload 6, 2) := by decide +kernel
theorem dX5_guessFor_56 : decode cX5_guessFor 56 = .ok (.aload_n 1, 1) := by decide +kernel
theorem dX5_guessFor_57 : decode cX5_guessFor 57 = .ok (.invokestatic 313, 3) := by decide +kernel
theorem dX5_guessFor_60 : decode cX5_guessFor 60 = .ok (.istore 7, 2) := by decide +kernel
theorem dX5_guessFor_62 : decode cX5_guessFor 62 = .ok (.aload_n 3, 1) := by decide +kernel
theorem dX5_guessFor_63 : decode cX5_guessFor 63 = .ok (.ifnull 10, 3) := by decide +kernel
theorem dX5_guessFor_66 : decode cX5_guessFor 66 = .ok (.iload 7, 2) := by decide +kernel
theorem dX5_guessFor_68 : decode cX5_guessFor 68 = .ok (.iload 4, 2) := by decide +kernel
theorem dX5_guessFor_70 : decode cX5_guessFor 70 = .ok (.if_icmp .le 10, 3) := by decide +kernel
theorem dX5_guessFor_73 : decode cX5_guessFor 73 = .ok (.aload 6, 2) := by decide +kernel
theorem dX5_guessFor_75 : decode cX5_guessFor 75 = .ok (.astore_n 3, 1) := by decide +kernel
theorem dX5_guessFor_76 : decode cX5_guessFor 76 = .ok (.iload 7, 2) := by decide +kernel
theorem dX5_guessFor_78 : decode cX5_guessFor 78 = .ok (.istore 4, 2) := by decide +kernel
theorem dX5_guessFor_80 : decode cX5_guessFor 80 = .ok (.iinc 5 1, 3) := by decide +kernel
theorem dX5_guessFor_83 : decode cX5_guessFor 83 = .ok (.goto (-64), 3) := by decide +kernel
theorem dX5_guessFor_86 : decode cX5_guessFor 86 = .ok (.aload_n 3, 1) := by decide +kernel
theorem dX5_guessFor_87 : decode cX5_guessFor 87 = .ok (.areturn, 1) := by decide +kernel
set_option maxRecDepth 20000 in
theorem ggX5_worthAsModel_X0_countSharedWith : GoodIn wsX5_worthAsModel wsX0_countSharedWith := goodIn_r _ [5, 6, 12, 13, 14, 15, 16, 17, 18] (by decide +kernel) (by decide +kernel)
set_option maxRecDepth 20000 in
theorem gX5_worthAsModel_X0_countSharedWith : GoodIn wsX5_worthAsModel (wsV RX5 229 RX0 yX0_countSharedWith wsX0_countSharedWith) := goodIn_app (goodIn_of _ (by decide +kernel)) ggX5_worthAsModel_X0_countSharedWith
set_option maxRecDepth 20000 in
theorem ggX5_worthAsModel_X0_countErrors : GoodIn wsX5_worthAsModel wsX0_countErrors := goodIn_r _ [10, 11, 2, 3, 4, 5, 6, 12, 13, 14, 15, 16, 17, 18] (by decide +kernel) (by decide +kernel)
set_option maxRecDepth 20000 in
theorem gX5_worthAsModel_X0_countErrors : GoodIn wsX5_worthAsModel (wsV RX5 226 RX0 yX0_countErrors wsX0_countErrors) := goodIn_app (goodIn_of _ (by decide +kernel)) ggX5_worthAsModel_X0_countErrors
theorem dX5_worthAsModel_0 : decode cX5_worthAsModel 0 = .ok (.aload_n 1, 1) := by decide +kernel
theorem dX5_worthAsModel_1 : decode cX5_worthAsModel 1 = .ok (.aload_n 0, 1) := by decide +kernel
theorem dX5_worthAsModel_2 : decode cX5_worthAsModel 2 = .ok (.invokevirtual 229, 3) := by decide +kernel
theorem dX5_worthAsModel_5 : decode cX5_worthAsModel 5 = .ok (.istore_n 2, 1) := by decide +kernel
theorem dX5_worthAsModel_6 : decode cX5_worthAsModel 6 = .ok (.aload_n 0, 1) := by decide +kernel
theorem dX5_worthAsModel_7 : decode cX5_worthAsModel 7 = .ok (.invokevirtual 226, 3) := by decide +kernel
theorem dX5_worthAsModel_10 : decode cX5_worthAsModel 10 = .ok (.iload_n 2, 1) := by decide +kernel
theorem dX5_worthAsModel_11 : decode cX5_worthAsModel 11 = .ok (.isub, 1) := by decide +kernel
theorem dX5_worthAsModel_12 : decode cX5_worthAsModel 12 = .ok (.istore_n 3, 1) := by decide +kernel
theorem dX5_worthAsModel_13 : decode cX5_worthAsModel 13 = .ok (.iconst 2, 1) := by decide +kernel
theorem dX5_worthAsModel_14 : decode cX5_worthAsModel 14 = .ok (.iload_n 2, 1) := by decide +kernel
theorem dX5_worthAsModel_15 : decode cX5_worthAsModel 15 = .ok (.imul, 1) := by decide +kernel
theorem dX5_worthAsModel_16 : decode cX5_worthAsModel 16 = .ok (.iload_n 3, 1) := by decide +kernel
theorem dX5_worthAsModel_17 : decode cX5_worthAsModel 17 = .ok (.isub, 1) := by decide +kernel
theorem dX5_worthAsModel_18 : decode cX5_worthAsModel 18 = .ok (.ireturn, 1) := by decide +kernel
theorem dJ13_bitCount_95d88_0 : decode cJ13_bitCount_95d88 0 = .ok (.lload_n 0, 1) := by decide +kernel
theorem dJ13_bitCount_95d88_1 : decode cJ13_bitCount_95d88 1 = .ok (.lload_n 0, 1) := by decide +kernel
theorem dJ13_bitCount_95d88_2 : decode cJ13_bitCount_95d88 2 = .ok (.iconst 1, 1) := by decide +kernel
theorem dJ13_bitCount_95d88_3 : decode cJ13_bitCount_95d88 3 = .ok (.lushr, 1) := by decide +kernel
theorem dJ13_bitCount_95d88_4 : decode cJ13_bitCount_95d88 4 = .ok (.ldc2_w 314, 3) := by decide +kernel
theorem dJ13_bitCount_95d88_7 : decode cJ13_bitCount_95d88 7 = .ok (.land, 1) := by decide +kernel
theorem dJ13_bitCount_95d88_8 : decode cJ13_bitCount_95d88 8 = .ok (.lsub, 1) := by decide +kernel
theorem dJ13_bitCount_95d88_9 : decode cJ13_bitCount_95d88 9 = .ok (.lstore_n 0, 1) := by decide +kernel
theorem dJ13_bitCount_95d88_10 : decode cJ13_bitCount_95d88 10 = .ok (.lload_n 0, 1) := by decide +kernel
theorem dJ13_bitCount_95d88_11 : decode cJ13_bitCount_95d88 11 = .ok (.ldc2_w 316, 3) := by decide +kernel
theorem dJ13_bitCount_95d88_14 : decode cJ13_bitCount_95d88 14 = .ok (.land, 1) := by decide +kernel
theorem dJ13_bitCount_95d88_15 : decode cJ13_bitCount_95d88 15 = .ok (.lload_n 0, 1) := by decide +kernel
theorem dJ13_bitCount_95d88_16 : decode cJ13_bitCount_95d88 16 = .ok (.iconst 2, 1) := by decide +kernel
theorem dJ13_bitCount_95d88_17 : decode cJ13_bitCount_95d88 17 = .ok (.lushr, 1) := by decide +kernel
theorem dJ13_bitCount_95d88_18 : decode cJ13_bitCount_95d88 18 = .ok (.ldc2_w 316, 3) := by decide +kernel
theorem dJ13_bitCount_95d88_21 : decode cJ13_bitCount_95d88 21 = .ok (.land, 1) := by decide +kernel
theorem dJ13_bitCount_95d88_22 : decode cJ13_bitCount_95d88 22 = .ok (.ladd, 1) := by decide +kernel
theorem dJ13_bitCount_95d88_23 : decode cJ13_bitCount_95d88 23 = .ok (.lstore_n 0, 1) := by decide +kernel
theorem dJ13_bitCount_95d88_24 : decode cJ13_bitCount_95d88 24 = .ok (.lload_n 0, 1) := by decide +kernel
theorem dJ13_bitCount_95d88_25 : decode cJ13_bitCount_95d88 25 = .ok (.lload_n 0, 1) := by decide +kernel
theorem dJ13_bitCount_95d88_26 : decode cJ13_bitCount_95d88 26 = .ok (.iconst 4, 1) := by decide +kernel
theorem dJ13_bitCount_95d88_27 : decode cJ13_bitCount_95d88 27 = .ok (.lushr, 1) := by decide +kernel
theorem dJ13_bitCount_95d88_28 : decode cJ13_bitCount_95d88 28 = .ok (.ladd, 1) := by decide +kernel
theorem dJ13_bitCount_95d88_29 : decode cJ13_bitCount_95d88 29 = .ok (.ldc2_w 318, 3) := by decide +kernel
theorem dJ13_bitCount_95d88_32 : decode cJ13_bitCount_95d88 32 = .ok (.land, 1) := by decide +kernel
theorem dJ13_bitCount_95d88_33 : decode cJ13_bitCount_95d88 33 = .ok (.lstore_n 0, 1) := by decide +kernel
theorem dJ13_bitCount_95d88_34 : decode cJ13_bitCount_95d88 34 = .ok (.lload_n 0, 1) := by decide +kernel
theorem dJ13_bitCount_95d88_35 : decode cJ13_bitCount_95d88 35 = .ok (.lload_n 0, 1) := by decide +kernel
theorem dJ13_bitCount_95d88_36 : decode cJ13_bitCount_95d88 36 = .ok (.bipush 8, 2) := by decide +kernel
theorem dJ13_bitCount_95d88_38 : decode cJ13_bitCount_95d88 38 = .ok (.lushr, 1) := by decide +kernel
theorem dJ13_bitCount_95d88_39 : decode cJ13_bitCount_95d88 39 = .ok (.ladd, 1) := by decide +kernel
theorem dJ13_bitCount_95d88_40 : decode cJ13_bitCount_95d88 40 = .ok (.lstore_n 0, 1) := by decide +kernel
theorem dJ13_bitCount_95d88_41 : decode cJ13_bitCount_95d88 41 = .ok (.lload_n 0, 1) := by decide +kernel
theorem dJ13_bitCount_95d88_42 : decode cJ13_bitCount_95d88 42 = .ok (.lload_n 0, 1) := by decide +kernel
theorem dJ13_bitCount_95d88_43 : decode cJ13_bitCount_95d88 43 = .ok (.bipush 16, 2) := by decide +kernel
theorem dJ13_bitCount_95d88_45 : decode cJ13_bitCount_95d88 45 = .ok (.lushr, 1) := by decide +kernel
theorem dJ13_bitCount_95d88_46 : decode cJ13_bitCount_95d88 46 = .ok (.ladd, 1) := by decide +kernel
theorem dJ13_bitCount_95d88_47 : decode cJ13_bitCount_95d88 47 = .ok (.lstore_n 0, 1) := by decide +kernel
theorem dJ13_bitCount_95d88_48 : decode cJ13_bitCount_95d88 48 = .ok (.lload_n 0, 1) := by decide +kernel
theorem dJ13_bitCount_95d88_49 : decode cJ13_bitCount_95d88 49 = .ok (.lload_n 0, 1) := by decide +kernel
theorem dJ13_bitCount_95d88_50 : decode cJ13_bitCount_95d88 50 = .ok (.bipush 32, 2) := by decide +kernel
theorem dJ13_bitCount_95d88_52 : decode cJ13_bitCount_95d88 52 = .ok (.lushr, 1) := by decide +kernel
theorem dJ13_bitCount_95d88_53 : decode cJ13_bitCount_95d88 53 = .ok (.ladd, 1) := by decide +kernel
theorem dJ13_bitCount_95d88_54 : decode cJ13_bitCount_95d88 54 = .ok (.lstore_n 0, 1) := by decide +kernel
theorem dJ13_bitCount_95d88_55 : decode cJ13_bitCount_95d88 55 = .ok (.lload_n 0, 1) := by decide +kernel
theorem dJ13_bitCount_95d88_56 : decode cJ13_bitCount_95d88 56 = .ok (.l2i, 1) := by decide +kernel
theorem dJ13_bitCount_95d88_57 : decode cJ13_bitCount_95d88 57 = .ok (.bipush 127, 2) := by decide +kernel
theorem dJ13_bitCount_95d88_59 : decode cJ13_bitCount_95d88 59 = .ok (.iand, 1) := by decide +kernel
theorem dJ13_bitCount_95d88_60 : decode cJ13_bitCount_95d88 60 = .ok (.ireturn, 1) := by decide +kernel
theorem dJ9_max_7cf53_0 : decode cJ9_max_7cf53 0 = .ok (.iload_n 0, 1) := by decide +kernel
theorem dJ9_max_7cf53_1 : decode cJ9_max_7cf53 1 = .ok (.iload_n 1, 1) := by decide +kernel
theorem dJ9_max_7cf53_2 : decode cJ9_max_7cf53 2 = .ok (.if_icmp .lt 7, 3) := by decide +kernel
theorem dJ9_max_7cf53_5 : decode cJ9_max_7cf53 5 = .ok (.iload_n 0, 1) := by decide +kernel
theorem dJ9_max_7cf53_6 : decode cJ9_max_7cf53 6 = .ok (.goto 4, 3) := by decide +kernel
theorem dJ9_max_7cf53_9 : decode cJ9_max_7cf53 9 = .ok (.iload_n 1, 1) := by decide +kernel
theorem dJ9_max_7cf53_10 : decode cJ9_max_7cf53 10 = .ok (.ireturn, 1) := by decide +kernel
theorem dJ9_min_7cf53_0 : decode cJ9_min_7cf53 0 = .ok (.iload_n 0, 1) := by decide +kernel
theorem dJ9_min_7cf53_1 : decode cJ9_min_7cf53 1 = .ok (.iload_n 1, 1) := by decide +kernel
theorem dJ9_min_7cf53_2 : decode cJ9_min_7cf53 2 = .ok (.if_icmp .gt 7, 3) := by decide +kernel
theorem dJ9_min_7cf53_5 : decode cJ9_min_7cf53 5 = .ok (.iload_n 0, 1) := by decide +kernel
theorem dJ9_min_7cf53_6 : decode cJ9_min_7cf53 6 = .ok (.goto 4, 3) := by decide +kernel
theorem dJ9_min_7cf53_9 : decode cJ9_min_7cf53 9 = .ok (.iload_n 1, 1) := by decide +kernel
theorem dJ9_min_7cf53_10 : decode cJ9_min_7cf53 10 = .ok (.ireturn, 1) := by decide +kernel
theorem dJxa1e45_init_da8c8_0 : decode cJxa1e45_init_da8c8 0 = .ok (.aload_n 0, 1) := by decide +kernel
theorem dJxa1e45_init_da8c8_1 : decode cJxa1e45_init_da8c8 1 = .ok (.invokespecial 1, 3) := by decide +kernel
theorem dJxa1e45_init_da8c8_4 : decode cJxa1e45_init_da8c8 4 = .ok (.return_, 1) := by decide +kernel
set_option maxRecDepth 20000 in
theorem ggJxc12de_init_da8c8_Jxa1e45_init_da8c8 : GoodIn wsJxc12de_init_da8c8 wsJxa1e45_init_da8c8 := goodIn_r _ [5, 6, 7, 8] (by decide +kernel) (by decide +kernel)
set_option maxRecDepth 20000 in
theorem gJxc12de_init_da8c8_Jxa1e45_init_da8c8 : GoodIn wsJxc12de_init_da8c8 (wsJxa1e45_init_da8c8) := ggJxc12de_init_da8c8_Jxa1e45_init_da8c8
theorem dJxc12de_init_da8c8_0 : decode cJxc12de_init_da8c8 0 = .ok (.aload_n 0, 1) := by decide +kernel
theorem dJxc12de_init_da8c8_1 : decode cJxc12de_init_da8c8 1 = .ok (.invokespecial 1, 3) := by decide +kernel
theorem dJxc12de_init_da8c8_4 : decode cJxc12de_init_da8c8 4 = .ok (.aload_n 0, 1) := by decide +kernel
theorem dJxc12de_init_da8c8_5 : decode cJxc12de_init_da8c8 5 = .ok (.iconst 0, 1) := by decide +kernel
theorem dJxc12de_init_da8c8_6 : decode cJxc12de_init_da8c8 6 = .ok (.putfield 7, 3) := by decide +kernel
theorem dJxc12de_init_da8c8_9 : decode cJxc12de_init_da8c8 9 = .ok (.return_, 1) := by decide +kernel
set_option maxRecDepth 20000 in
theorem ggJx4a65c_init_da8c8_Jxc12de_init_da8c8 : GoodIn wsJx4a65c_init_da8c8 wsJxc12de_init_da8c8 := goodIn_r _ [6, 7, 8, 9, 10, 11, 12, 13, 14, 15, 16, 17] (by decide +kernel) (by decide +kernel)
set_option maxRecDepth 20000 in
theorem gJx4a65c_init_da8c8_Jxc12de_init_da8c8 : GoodIn wsJx4a65c_init_da8c8 (wsJxc12de_init_da8c8) := ggJx4a65c_init_da8c8_Jxc12de_init_da8c8
theorem dJx4a65c_init_da8c8_0 : decode cJx4a65c_init_da8c8 0 = .ok (.aload_n 0, 1) := by decide +kernel
theorem dJx4a65c_init_da8c8_1 : decode cJx4a65c_init_da8c8 1 = .ok (.invokespecial 1, 3) := by decide +kernel
theorem dJx4a65c_init_da8c8_4 : decode cJx4a65c_init_da8c8 4 = .ok (.aload_n 0, 1) := by decide +kernel
theorem dJx4a65c_init_da8c8_5 : decode cJx4a65c_init_da8c8 5 = .ok (.getstatic 39, 3) := by decide +kernel
theorem dJx4a65c_init_da8c8_8 : decode cJx4a65c_init_da8c8 8 = .ok (.putfield 9, 3) := by decide +kernel
theorem dJx4a65c_init_da8c8_11 : decode cJx4a65c_init_da8c8 11 = .ok (.return_, 1) := by decide +kernel
set_option maxRecDepth 20000 in
theorem ggJx4a65c_grow_92f84_J8_newLength_cabcc : GoodIn wsJx4a65c_grow_92f84 wsJ8_newLength_cabcc := goodIn_r _ [11, 12, 4, 5, 6, 13, 14, 15, 10, 16] (by decide +kernel) (by decide +kernel)
set_option maxRecDepth 20000 in
theorem gJx4a65c_grow_92f84_J8_newLength_cabcc : GoodIn wsJx4a65c_grow_92f84 (va_wsS RJx4a65c 73 yJ8_newLength_cabcc wsJ8_newLength_cabcc) := goodIn_app (goodIn_of _ (by decide +kernel)) ggJx4a65c_grow_92f84_J8_newLength_cabcc
set_option maxRecDepth 20000 in
theorem ggJx4a65c_grow_92f84_J7_copyOf_1904c : GoodIn wsJx4a65c_grow_92f84 wsJ7_copyOf_1904c := goodIn_r _ [20, 21, 22, 23, 24, 25, 26, 19, 27, 28, 29, 30, 31, 5, 32, 33, 34, 35, 36] (by decide +kernel) (by decide +kernel)
set_option maxRecDepth 20000 in
theorem gJx4a65c_grow_92f84_J7_copyOf_1904c : GoodIn wsJx4a65c_grow_92f84 (va_wsS RJx4a65c 66 yJ7_copyOf_1904c wsJ7_copyOf_1904c) := goodIn_app (goodIn_of _ (by decide +kernel)) ggJx4a65c_grow_92f84_J7_copyOf_1904c
theorem dJx4a65c_grow_92f84_0 : decode cJx4a65c_grow_92f84 0 = .ok (.aload_n 0, 1) := by decide +kernel
theorem dJx4a65c_grow_92f84_1 : decode cJx4a65c_grow_92f84 1 = .ok (.getfield 9, 3) := by decide +kernel
theorem dJx4a65c_grow_92f84_4 : decode cJx4a65c_grow_92f84 4 = .ok (.arraylength, 1) := by decide +kernel
theorem dJx4a65c_grow_92f84_5 : decode cJx4a65c_grow_92f84 5 = .ok (.istore_n 2, 1) := by decide +kernel
theorem dJx4a65c_grow_92f84_6 : decode cJx4a65c_grow_92f84 6 = .ok (.iload_n 2, 1) := by decide +kernel
theorem dJx4a65c_grow_92f84_7 : decode cJx4a65c_grow_92f84 7 = .ok (.ifCond .gt 13, 3) := by decide +kernel
theorem dJx4a65c_grow_92f84_10 : decode cJx4a65c_grow_92f84 10 = .ok (.aload_n 0, 1) := by decide +kernel
theorem dJx4a65c_grow_92f84_11 : decode cJx4a65c_grow_92f84 11 = .ok (.getfield 9, 3) := by decide +kernel
theorem dJx4a65c_grow_92f84_14 : decode cJx4a65c_grow_92f84 14 = .ok (.getstatic 39, 3) := by decide +kernel
theorem dJx4a65c_grow_92f84_17 : decode cJx4a65c_grow_92f84 17 = .ok (.if_acmp .eq 28, 3) := by decide +kernel
theorem dJx4a65c_grow_92f84_20 : decode cJx4a65c_grow_92f84 20 = .ok (.iload_n 2, 1) := by decide +kernel
theorem dJx4a65c_grow_92f84_21 : decode cJx4a65c_grow_92f84 21 = .ok (.iload_n 1, 1) := by decide +kernel
theorem dJx4a65c_grow_92f84_22 : decode cJx4a65c_grow_92f84 22 = .ok (.iload_n 2, 1) := by decide +kernel
theorem dJx4a65c_grow_92f84_23 : decode cJx4a65c_grow_92f84 23 = .ok (.isub, 1) := by decide +kernel
theorem dJx4a65c_grow_92f84_24 : decode cJx4a65c_grow_92f84 24 = .ok (.iload_n 2, 1) := by decide +kernel
theorem dJx4a65c_grow_92f84_25 : decode cJx4a65c_grow_92f84 25 = .ok (.iconst 1, 1) := by decide +kernel
theorem dJx4a65c_grow_92f84_26 : decode cJx4a65c_grow_92f84 26 = .ok (.ishr, 1) := by decide +kernel
theorem dJx4a65c_grow_92f84_27 : decode cJx4a65c_grow_92f84 27 = .ok (.invokestatic 73, 3) := by decide +kernel
theorem dJx4a65c_grow_92f84_30 : decode cJx4a65c_grow_92f84 30 = .ok (.istore_n 3, 1) := by decide +kernel
theorem dJx4a65c_grow_92f84_31 : decode cJx4a65c_grow_92f84 31 = .ok (.aload_n 0, 1) := by decide +kernel
theorem dJx4a65c_grow_92f84_32 : decode cJx4a65c_grow_92f84 32 = .ok (.aload_n 0, 1) := by decide +kernel
theorem dJx4a65c_grow_92f84_33 : decode cJx4a65c_grow_92f84 33 = .ok (.getfield 9, 3) := by decide +kernel
theorem dJx4a65c_grow_92f84_36 : decode cJx4a65c_grow_92f84 36 = .ok (.iload_n 3, 1) := by decide +kernel
theorem dJx4a65c_grow_92f84_37 : decode cJx4a65c_grow_92f84 37 = .ok (.invokestatic 66, 3) := by decide +kernel
theorem dJx4a65c_grow_92f84_40 : decode cJx4a65c_grow_92f84 40 = .ok (.dup_x1, 1) := by decide +kernel
theorem dJx4a65c_grow_92f84_41 : decode cJx4a65c_grow_92f84 41 = .ok (.putfield 9, 3) := by decide +kernel
theorem dJx4a65c_grow_92f84_44 : decode cJx4a65c_grow_92f84 44 = .ok (.areturn, 1) := by decide +kernel
theorem dJx4a65c_grow_92f84_45 : decode cJx4a65c_grow_92f84 45 = .ok (.aload_n 0, 1) := by decide +kernel
theorem dJx4a65c_grow_92f84_46 : decode cJx4a65c_grow_92f84 46 = .ok (.bipush 10, 2) := by decide +kernel
theorem dJx4a65c_grow_92f84_48 : decode cJx4a65c_grow_92f84 48 = .ok (.iload_n 1, 1) := by decide +kernel
theorem dJx4a65c_grow_92f84_49 : decode cJx4a65c_grow_92f84 49 = .ok (.invokestatic 79, 3) := by decide +kernel
theorem dJx4a65c_grow_92f84_52 : decode cJx4a65c_grow_92f84 52 = .ok (.anewarray 7, 3) := by decide +kernel
theorem dJx4a65c_grow_92f84_55 : decode cJx4a65c_grow_92f84 55 = .ok (.dup_x1, 1) := by decide +kernel
theorem dJx4a65c_grow_92f84_56 : decode cJx4a65c_grow_92f84 56 = .ok (.putfield 9, 3) := by decide +kernel
theorem dJx4a65c_grow_92f84_59 : decode cJx4a65c_grow_92f84 59 = .ok (.areturn, 1) := by decide +kernel
set_option maxRecDepth 20000 in
theorem ggJx4a65c_grow_d5877_Jx4a65c_grow_92f84 : GoodIn wsJx4a65c_grow_d5877 wsJx4a65c_grow_92f84 := goodIn_r _ [6, 7, 8, 9, 10, 11, 12, 13, 14, 15, 16, 17, 18, 19, 20, 21, 22, 23, 24, 25, 26, 27, 28, 29, 30, 31, 32, 33, 34, 35, 36, 37, 38, 39, 40, 41, 42, 43, 44, 45] (by decide +kernel) (by decide +kernel)
set_option maxRecDepth 20000 in
theorem gJx4a65c_grow_d5877_Jx4a65c_grow_92f84 : GoodIn wsJx4a65c_grow_d5877 (wsV RJx4a65c 69 RJx4a65c yJx4a65c_grow_92f84 wsJx4a65c_grow_92f84) := goodIn_app (goodIn_of _ (by decide +kernel)) ggJx4a65c_grow_d5877_Jx4a65c_grow_92f84
theorem dJx4a65c_grow_d5877_0 : decode cJx4a65c_grow_d5877 0 = .ok (.aload_n 0, 1) := by decide +kernel
theorem dJx4a65c_grow_d5877_1 : decode cJx4a65c_grow_d5877 1 = .ok (.aload_n 0, 1) := by decide +kernel
theorem dJx4a65c_grow_d5877_2 : decode cJx4a65c_grow_d5877 2 = .ok (.getfield 48, 3) := by decide +kernel
theorem dJx4a65c_grow_d5877_5 : decode cJx4a65c_grow_d5877 5 = .ok (.iconst 1, 1) := by decide +kernel
theorem dJx4a65c_grow_d5877_6 : decode cJx4a65c_grow_d5877 6 = .ok (.iadd, 1) := by decide +kernel
theorem dJx4a65c_grow_d5877_7 : decode cJx4a65c_grow_d5877 7 = .ok (.invokevirtual 69, 3) := by decide +kernel
theorem dJx4a65c_grow_d5877_10 : decode cJx4a65c_grow_d5877 10 = .ok (.areturn, 1) := by decide +kernel
theorem dJx4a65c_size_8abf5_0 : decode cJx4a65c_size_8abf5 0 = .ok (.aload_n 0, 1) := by decide +kernel
theorem dJx4a65c_size_8abf5_1 : decode cJx4a65c_size_8abf5 1 = .ok (.getfield 48, 3) := by decide +kernel
theorem dJx4a65c_size_8abf5_4 : decode cJx4a65c_size_8abf5 4 = .ok (.ireturn, 1) := by decide +kernel
theorem dJx4a65c_elementData_915e3_0 : decode cJx4a65c_elementData_915e3 0 = .ok (.aload_n 0, 1) := by decide +kernel
theorem dJx4a65c_elementData_915e3_1 : decode cJx4a65c_elementData_915e3 1 = .ok (.getfield 9, 3) := by decide +kernel
theorem dJx4a65c_elementData_915e3_4 : decode cJx4a65c_elementData_915e3 4 = .ok (.iload_n 1, 1) := by decide +kernel
theorem dJx4a65c_elementData_915e3_5 : decode cJx4a65c_elementData_915e3 5 = .ok (.aaload, 1) := by decide +kernel
theorem dJx4a65c_elementData_915e3_6 : decode cJx4a65c_elementData_915e3 6 = .ok (.areturn, 1) := by decide +kernel
set_option maxRecDepth 20000 in
theorem ggJx4a65c_get_915e3_J15_checkIndex_7cf53 : GoodIn wsJx4a65c_get_915e3 wsJ15_checkIndex_7cf53 := goodIn_r _ [5, 6, 7, 8, 9] (by decide +kernel) (by decide +kernel)
set_option maxRecDepth 20000 in
theorem gJx4a65c_get_915e3_J15_checkIndex_7cf53 : GoodIn wsJx4a65c_get_915e3 (va_wsS RJx4a65c 118 yJ15_checkIndex_7cf53 wsJ15_checkIndex_7cf53) := goodIn_app (goodIn_of _ (by decide +kernel)) ggJx4a65c_get_915e3_J15_checkIndex_7cf53
set_option maxRecDepth 20000 in
theorem ggJx4a65c_get_915e3_Jx4a65c_elementData_915e3 : GoodIn wsJx4a65c_get_915e3 wsJx4a65c_elementData_915e3 := goodIn_r _ [14, 15, 16, 17, 18] (by decide +kernel) (by decide +kernel)
set_option maxRecDepth 20000 in
theorem gJx4a65c_get_915e3_Jx4a65c_elementData_915e3 : GoodIn wsJx4a65c_get_915e3 (wsV RJx4a65c 123 RJx4a65c yJx4a65c_elementData_915e3 wsJx4a65c_elementData_915e3) := goodIn_app (goodIn_of _ (by decide +kernel)) ggJx4a65c_get_915e3_Jx4a65c_elementData_915e3
theorem dJx4a65c_get_915e3_0 : decode cJx4a65c_get_915e3 0 = .ok (.iload_n 1, 1) := by decide +kernel
theorem dJx4a65c_get_915e3_1 : decode cJx4a65c_get_915e3 1 = .ok (.aload_n 0, 1) := by decide +kernel
theorem dJx4a65c_get_915e3_2 : decode cJx4a65c_get_915e3 2 = .ok (.getfield 48, 3) := by decide +kernel
theorem dJx4a65c_get_915e3_5 : decode cJx4a65c_get_915e3 5 = .ok (.invokestatic 118, 3) := by decide +kernel
theorem dJx4a65c_get_915e3_8 : decode cJx4a65c_get_915e3 8 = .ok (.pop, 1) := by decide +kernel
theorem dJx4a65c_get_915e3_9 : decode cJx4a65c_get_915e3 9 = .ok (.aload_n 0, 1) := by decide +kernel
theorem dJx4a65c_get_915e3_10 : decode cJx4a65c_get_915e3 10 = .ok (.iload_n 1, 1) := by decide +kernel
theorem dJx4a65c_get_915e3_11 : decode cJx4a65c_get_915e3 11 = .ok (.invokevirtual 123, 3) := by decide +kernel
theorem dJx4a65c_get_915e3_14 : decode cJx4a65c_get_915e3 14 = .ok (.areturn, 1) := by decide +kernel
set_option maxRecDepth 20000 in
theorem ggJx4a65c_add_72be8_Jx4a65c_grow_d5877 : GoodIn wsJx4a65c_add_72be8 wsJx4a65c_grow_d5877 := goodIn_r _ [6, 1, 7, 8, 9, 5, 10, 11, 12, 13, 14, 15, 16, 17, 18, 19, 20, 21, 22, 23, 24, 25, 26, 27, 28, 29, 30, 31, 32, 33, 34, 35, 36, 37, 38, 39, 40, 41, 42, 43, 44, 45, 46, 47, 48, 49] (by decide +kernel) (by decide +kernel)
set_option maxRecDepth 20000 in
theorem gJx4a65c_add_72be8_Jx4a65c_grow_d5877 : GoodIn wsJx4a65c_add_72be8 (wsV RJx4a65c 129 RJx4a65c yJx4a65c_grow_d5877 wsJx4a65c_grow_d5877) := goodIn_app (goodIn_of _ (by decide +kernel)) ggJx4a65c_add_72be8_Jx4a65c_grow_d5877
theorem dJx4a65c_add_72be8_0 : decode cJx4a65c_add_72be8 0 = .ok (.iload_n 3, 1) := by decide +kernel
theorem dJx4a65c_add_72be8_1 : decode cJx4a65c_add_72be8 1 = .ok (.aload_n 2, 1) := by decide +kernel
theorem dJx4a65c_add_72be8_2 : decode cJx4a65c_add_72be8 2 = .ok (.arraylength, 1) := by decide +kernel
theorem dJx4a65c_add_72be8_3 : decode cJx4a65c_add_72be8 3 = .ok (.if_icmp .ne 8, 3) := by decide +kernel
theorem dJx4a65c_add_72be8_6 : decode cJx4a65c_add_72be8 6 = .ok (.aload_n 0, 1) := by decide +kernel
theorem dJx4a65c_add_72be8_7 : decode cJx4a65c_add_72be8 7 = .ok (.invokevirtual 129, 3) := by decide +kernel
theorem dJx4a65c_add_72be8_10 : decode cJx4a65c_add_72be8 10 = .ok (.astore_n 2, 1) := by decide +kernel
theorem dJx4a65c_add_72be8_11 : decode cJx4a65c_add_72be8 11 = .ok (.aload_n 2, 1) := by decide +kernel
theorem dJx4a65c_add_72be8_12 : decode cJx4a65c_add_72be8 12 = .ok (.iload_n 3, 1) := by decide +kernel
theorem dJx4a65c_add_72be8_13 : decode cJx4a65c_add_72be8 13 = .ok (.aload_n 1, 1) := by decide +kernel
theorem dJx4a65c_add_72be8_14 : decode cJx4a65c_add_72be8 14 = .ok (.aastore, 1) := by decide +kernel
theorem dJx4a65c_add_72be8_15 : decode cJx4a65c_add_72be8 15 = .ok (.aload_n 0, 1) := by decide +kernel
theorem dJx4a65c_add_72be8_16 : decode cJx4a65c_add_72be8 16 = .ok (.iload_n 3, 1) := by decide +kernel
theorem dJx4a65c_add_72be8_17 : decode cJx4a65c_add_72be8 17 = .ok (.iconst 1, 1) := by decide +kernel
theorem dJx4a65c_add_72be8_18 : decode cJx4a65c_add_72be8 18 = .ok (.iadd, 1) := by decide +kernel
theorem dJx4a65c_add_72be8_19 : decode cJx4a65c_add_72be8 19 = .ok (.putfield 48, 3) := by decide +kernel
theorem dJx4a65c_add_72be8_22 : decode cJx4a65c_add_72be8 22 = .ok (.return_, 1) := by decide +kernel
set_option maxRecDepth 20000 in
theorem ggJx4a65c_add_9ea2d_Jx4a65c_add_72be8 : GoodIn wsJx4a65c_add_9ea2d wsJx4a65c_add_72be8 := goodIn_r _ [9, 4, 10, 11, 12, 8, 13, 14, 15, 16, 17, 3, 18, 19, 20, 21, 22, 23, 24, 25, 26, 27, 28, 29, 30, 31, 32, 33, 34, 35, 36, 37, 38, 39, 40, 41, 42, 43, 44, 45, 46, 47, 48, 49, 50, 51, 52, 53, 54, 55] (by decide +kernel) (by decide +kernel)
set_option maxRecDepth 20000 in
theorem gJx4a65c_add_9ea2d_Jx4a65c_add_72be8 : GoodIn wsJx4a65c_add_9ea2d (wsV RJx4a65c 131 RJx4a65c yJx4a65c_add_72be8 wsJx4a65c_add_72be8) := goodIn_app (goodIn_of _ (by decide +kernel)) ggJx4a65c_add_9ea2d_Jx4a65c_add_72be8
theorem dJx4a65c_add_9ea2d_0 : decode cJx4a65c_add_9ea2d 0 = .ok (.aload_n 0, 1) := by decide +kernel
theorem dJx4a65c_add_9ea2d_1 : decode cJx4a65c_add_9ea2d 1 = .ok (.dup, 1) := by decide +kernel
theorem dJx4a65c_add_9ea2d_2 : decode cJx4a65c_add_9ea2d 2 = .ok (.getfield 63, 3) := by decide +kernel
theorem dJx4a65c_add_9ea2d_5 : decode cJx4a65c_add_9ea2d 5 = .ok (.iconst 1, 1) := by decide +kernel
theorem dJx4a65c_add_9ea2d_6 : decode cJx4a65c_add_9ea2d 6 = .ok (.iadd, 1) := by decide +kernel
theorem dJx4a65c_add_9ea2d_7 : decode cJx4a65c_add_9ea2d 7 = .ok (.putfield 63, 3) := by decide +kernel
theorem dJx4a65c_add_9ea2d_10 : decode cJx4a65c_add_9ea2d 10 = .ok (.aload_n 0, 1) := by decide +kernel
theorem dJx4a65c_add_9ea2d_11 : decode cJx4a65c_add_9ea2d 11 = .ok (.aload_n 1, 1) := by decide +kernel
theorem dJx4a65c_add_9ea2d_12 : decode cJx4a65c_add_9ea2d 12 = .ok (.aload_n 0, 1) := by decide +kernel
theorem dJx4a65c_add_9ea2d_13 : decode cJx4a65c_add_9ea2d 13 = .ok (.getfield 9, 3) := by decide +kernel
theorem dJx4a65c_add_9ea2d_16 : decode cJx4a65c_add_9ea2d 16 = .ok (.aload_n 0, 1) := by decide +kernel
theorem dJx4a65c_add_9ea2d_17 : decode cJx4a65c_add_9ea2d 17 = .ok (.getfield 48, 3) := by decide +kernel
theorem dJx4a65c_add_9ea2d_20 : decode cJx4a65c_add_9ea2d 20 = .ok (.invokevirtual 131, 3) := by decide +kernel
theorem dJx4a65c_add_9ea2d_23 : decode cJx4a65c_add_9ea2d 23 = .ok (.iconst 1, 1) := by decide +kernel
theorem dJx4a65c_add_9ea2d_24 : decode cJx4a65c_add_9ea2d 24 = .ok (.ireturn, 1) := by decide +kernel
theorem dJ7_fill_53178_0 : decode cJ7_fill_53178 0 = .ok (.iconst 0, 1) := by decide +kernel
theorem dJ7_fill_53178_1 : decode cJ7_fill_53178 1 = .ok (.istore_n 2, 1) := by decide +kernel
theorem dJ7_fill_53178_2 : decode cJ7_fill_53178 2 = .ok (.aload_n 0, 1) := by decide +kernel
theorem dJ7_fill_53178_3 : decode cJ7_fill_53178 3 = .ok (.arraylength, 1) := by decide +kernel
theorem dJ7_fill_53178_4 : decode cJ7_fill_53178 4 = .ok (.istore_n 3, 1) := by decide +kernel
theorem dJ7_fill_53178_5 : decode cJ7_fill_53178 5 = .ok (.iload_n 2, 1) := by decide +kernel
theorem dJ7_fill_53178_6 : decode cJ7_fill_53178 6 = .ok (.iload_n 3, 1) := by decide +kernel
theorem dJ7_fill_53178_7 : decode cJ7_fill_53178 7 = .ok (.if_icmp .ge 13, 3) := by decide +kernel
theorem dJ7_fill_53178_10 : decode cJ7_fill_53178 10 = .ok (.aload_n 0, 1) := by decide +kernel
theorem dJ7_fill_53178_11 : decode cJ7_fill_53178 11 = .ok (.iload_n 2, 1) := by decide +kernel
theorem dJ7_fill_53178_12 : decode cJ7_fill_53178 12 = .ok (.iload_n 1, 1) := by decide +kernel
theorem dJ7_fill_53178_13 : decode cJ7_fill_53178 13 = .ok (.iastore, 1) := by decide +kernel
theorem dJ7_fill_53178_14 : decode cJ7_fill_53178 14 = .ok (.iinc 2 1, 3) := by decide +kernel
theorem dJ7_fill_53178_17 : decode cJ7_fill_53178 17 = .ok (.goto (-12), 3) := by decide +kernel
theorem dJ7_fill_53178_20 : decode cJ7_fill_53178 20 = .ok (.return_, 1) := by decide +kernel
set_option maxRecDepth 20000 in
theorem ggJ7_copyOf_1904c_J7_copyOf_6403c : GoodIn wsJ7_copyOf_1904c wsJ7_copyOf_6403c := goodIn_r _ [8, 9, 10, 11, 12, 13, 14, 15, 16, 17, 18] (by decide +kernel) (by decide +kernel)
set_option maxRecDepth 20000 in
theorem gJ7_copyOf_1904c_J7_copyOf_6403c : GoodIn wsJ7_copyOf_1904c (va_wsS RJ7 300 yJ7_copyOf_6403c wsJ7_copyOf_6403c) := goodIn_app (goodIn_of _ (by decide +kernel)) ggJ7_copyOf_1904c_J7_copyOf_6403c
theorem dJ7_copyOf_1904c_0 : decode cJ7_copyOf_1904c 0 = .ok (.aload_n 0, 1) := by decide +kernel
theorem dJ7_copyOf_1904c_1 : decode cJ7_copyOf_1904c 1 = .ok (.iload_n 1, 1) := by decide +kernel
theorem dJ7_copyOf_1904c_2 : decode cJ7_copyOf_1904c 2 = .ok (.aload_n 0, 1) := by decide +kernel
theorem dJ7_copyOf_1904c_3 : decode cJ7_copyOf_1904c 3 = .ok (.invokevirtual 86, 3) := by decide +kernel
theorem dJ7_copyOf_1904c_6 : decode cJ7_copyOf_1904c 6 = .ok (.invokestatic 300, 3) := by decide +kernel
theorem dJ7_copyOf_1904c_9 : decode cJ7_copyOf_1904c 9 = .ok (.areturn, 1) := by decide +kernel
theorem dJ7_copyOf_6403c_0 : decode cJ7_copyOf_6403c 0 = .ok (.aload_n 2, 1) := by decide +kernel
theorem dJ7_copyOf_6403c_1 : decode cJ7_copyOf_6403c 1 = .ok (.ldc 110, 2) := by decide +kernel
theorem dJ7_copyOf_6403c_3 : decode cJ7_copyOf_6403c 3 = .ok (.if_acmp .ne 10, 3) := by decide +kernel
theorem dJ7_copyOf_6403c_6 : decode cJ7_copyOf_6403c 6 = .ok (.iload_n 1, 1) := by decide +kernel
theorem dJ7_copyOf_6403c_7 : decode cJ7_copyOf_6403c 7 = .ok (.anewarray 2, 3) := by decide +kernel
theorem dJ7_copyOf_6403c_10 : decode cJ7_copyOf_6403c 10 = .ok (.goto 14, 3) := by decide +kernel
theorem dJ7_copyOf_6403c_13 : decode cJ7_copyOf_6403c 13 = .ok (.aload_n 2, 1) := by decide +kernel
theorem dJ7_copyOf_6403c_14 : decode cJ7_copyOf_6403c 14 = .ok (.invokevirtual 90, 3) := by decide +kernel
theorem dJ7_copyOf_6403c_17 : decode cJ7_copyOf_6403c 17 = .ok (.iload_n 1, 1) := by decide +kernel
theorem dJ7_copyOf_6403c_18 : decode cJ7_copyOf_6403c 18 = .ok (.invokestatic 95, 3) := by decide +kernel
theorem dJ7_copyOf_6403c_21 : decode cJ7_copyOf_6403c 21 = .ok (.checkcast 110, 3) := by decide +kernel
theorem dJ7_copyOf_6403c_24 : decode cJ7_copyOf_6403c 24 = .ok (.astore_n 3, 1) := by decide +kernel
theorem dJ7_copyOf_6403c_25 : decode cJ7_copyOf_6403c 25 = .ok (.aload_n 0, 1) := by decide +kernel
theorem dJ7_copyOf_6403c_26 : decode cJ7_copyOf_6403c 26 = .ok (.iconst 0, 1) := by decide +kernel
theorem dJ7_copyOf_6403c_27 : decode cJ7_copyOf_6403c 27 = .ok (.aload_n 3, 1) := by decide +kernel
theorem dJ7_copyOf_6403c_28 : decode cJ7_copyOf_6403c 28 = .ok (.iconst 0, 1) := by decide +kernel
theorem dJ7_copyOf_6403c_29 : decode cJ7_copyOf_6403c 29 = .ok (.aload_n 0, 1) := by decide +kernel
theorem dJ7_copyOf_6403c_30 : decode cJ7_copyOf_6403c 30 = .ok (.arraylength, 1) := by decide +kernel
theorem dJ7_copyOf_6403c_31 : decode cJ7_copyOf_6403c 31 = .ok (.iload_n 1, 1) := by decide +kernel
theorem dJ7_copyOf_6403c_32 : decode cJ7_copyOf_6403c 32 = .ok (.invokestatic 304, 3) := by decide +kernel
theorem dJ7_copyOf_6403c_35 : decode cJ7_copyOf_6403c 35 = .ok (.invokestatic 150, 3) := by decide +kernel
theorem dJ7_copyOf_6403c_38 : decode cJ7_copyOf_6403c 38 = .ok (.aload_n 3, 1) := by decide +kernel
theorem dJ7_copyOf_6403c_39 : decode cJ7_copyOf_6403c 39 = .ok (.areturn, 1) := by decide +kernel
set_option maxRecDepth 20000 in
theorem ggJ15_checkIndex_7cf53_J3_checkIndex_8e157 : GoodIn wsJ15_checkIndex_7cf53 wsJ3_checkIndex_8e157 := goodIn_r _ [4] (by decide +kernel) (by decide +kernel)
set_option maxRecDepth 20000 in
theorem gJ15_checkIndex_7cf53_J3_checkIndex_8e157 : GoodIn wsJ15_checkIndex_7cf53 (va_wsS RJ15 105 yJ3_checkIndex_8e157 wsJ3_checkIndex_8e157) := goodIn_app (goodIn_of _ (by decide +kernel)) ggJ15_checkIndex_7cf53_J3_checkIndex_8e157
theorem dJ15_checkIndex_7cf53_0 : decode cJ15_checkIndex_7cf53 0 = .ok (.iload_n 0, 1) := by decide +kernel
theorem dJ15_checkIndex_7cf53_1 : decode cJ15_checkIndex_7cf53 1 = .ok (.iload_n 1, 1) := by decide +kernel
theorem dJ15_checkIndex_7cf53_2 : decode cJ15_checkIndex_7cf53 2 = .ok (.aconst_null, 1) := by decide +kernel
theorem dJ15_checkIndex_7cf53_3 : decode cJ15_checkIndex_7cf53 3 = .ok (.invokestatic 105, 3) := by decide +kernel
theorem dJ15_checkIndex_7cf53_6 : decode cJ15_checkIndex_7cf53 6 = .ok (.ireturn, 1) := by decide +kernel
set_option maxRecDepth 20000 in
theorem ggJ8_newLength_cabcc_J8_hugeLength_7cf53 : GoodIn wsJ8_newLength_cabcc wsJ8_hugeLength_7cf53 := goodIn_r _ [9, 5] (by decide +kernel) (by decide +kernel)
set_option maxRecDepth 20000 in
theorem gJ8_newLength_cabcc_J8_hugeLength_7cf53 : GoodIn wsJ8_newLength_cabcc (va_wsS RJ8 201 yJ8_hugeLength_7cf53 wsJ8_hugeLength_7cf53) := goodIn_app (goodIn_of _ (by decide +kernel)) ggJ8_newLength_cabcc_J8_hugeLength_7cf53
theorem dJ8_newLength_cabcc_0 : decode cJ8_newLength_cabcc 0 = .ok (.iload_n 0, 1) := by decide +kernel
theorem dJ8_newLength_cabcc_1 : decode cJ8_newLength_cabcc 1 = .ok (.iload_n 1, 1) := by decide +kernel
theorem dJ8_newLength_cabcc_2 : decode cJ8_newLength_cabcc 2 = .ok (.iload_n 2, 1) := by decide +kernel
theorem dJ8_newLength_cabcc_3 : decode cJ8_newLength_cabcc 3 = .ok (.invokestatic 194, 3) := by decide +kernel
theorem dJ8_newLength_cabcc_6 : decode cJ8_newLength_cabcc 6 = .ok (.iadd, 1) := by decide +kernel
theorem dJ8_newLength_cabcc_7 : decode cJ8_newLength_cabcc 7 = .ok (.istore_n 3, 1) := by decide +kernel
theorem dJ8_newLength_cabcc_8 : decode cJ8_newLength_cabcc 8 = .ok (.iconst 0, 1) := by decide +kernel
theorem dJ8_newLength_cabcc_9 : decode cJ8_newLength_cabcc 9 = .ok (.iload_n 3, 1) := by decide +kernel
theorem dJ8_newLength_cabcc_10 : decode cJ8_newLength_cabcc 10 = .ok (.if_icmp .ge 11, 3) := by decide +kernel
theorem dJ8_newLength_cabcc_13 : decode cJ8_newLength_cabcc 13 = .ok (.iload_n 3, 1) := by decide +kernel
theorem dJ8_newLength_cabcc_14 : decode cJ8_newLength_cabcc 14 = .ok (.ldc 200, 2) := by decide +kernel
theorem dJ8_newLength_cabcc_16 : decode cJ8_newLength_cabcc 16 = .ok (.if_icmp .gt 5, 3) := by decide +kernel
theorem dJ8_newLength_cabcc_19 : decode cJ8_newLength_cabcc 19 = .ok (.iload_n 3, 1) := by decide +kernel
theorem dJ8_newLength_cabcc_20 : decode cJ8_newLength_cabcc 20 = .ok (.ireturn, 1) := by decide +kernel
theorem dJ8_newLength_cabcc_21 : decode cJ8_newLength_cabcc 21 = .ok (.iload_n 0, 1) := by decide +kernel
theorem dJ8_newLength_cabcc_22 : decode cJ8_newLength_cabcc 22 = .ok (.iload_n 1, 1) := by decide +kernel
theorem dJ8_newLength_cabcc_23 : decode cJ8_newLength_cabcc 23 = .ok (.invokestatic 201, 3) := by decide +kernel
theorem dJ8_newLength_cabcc_26 : decode cJ8_newLength_cabcc 26 = .ok (.ireturn, 1) := by decide +kernel
theorem dJ8_hugeLength_7cf53_0 : decode cJ8_hugeLength_7cf53 0 = .ok (.iload_n 0, 1) := by decide +kernel
theorem dJ8_hugeLength_7cf53_1 : decode cJ8_hugeLength_7cf53 1 = .ok (.iload_n 1, 1) := by decide +kernel
theorem dJ8_hugeLength_7cf53_2 : decode cJ8_hugeLength_7cf53 2 = .ok (.iadd, 1) := by decide +kernel
theorem dJ8_hugeLength_7cf53_3 : decode cJ8_hugeLength_7cf53 3 = .ok (.istore_n 2, 1) := by decide +kernel
theorem dJ8_hugeLength_7cf53_4 : decode cJ8_hugeLength_7cf53 4 = .ok (.iload_n 2, 1) := by decide +kernel
theorem dJ8_hugeLength_7cf53_5 : decode cJ8_hugeLength_7cf53 5 = .ok (.ifCond .ge 44, 3) := by decide +kernel
theorem dJ8_hugeLength_7cf53_8 : decode cJ8_hugeLength_7cf53 8 = .ok (.new 204, 3) := by decide +kernel
theorem dJ8_hugeLength_7cf53_11 : decode cJ8_hugeLength_7cf53 11 = .ok (.dup, 1) := by decide +kernel
theorem dJ8_hugeLength_7cf53_12 : decode cJ8_hugeLength_7cf53 12 = .ok (.new 89, 3) := by decide +kernel
theorem dJ8_hugeLength_7cf53_15 : decode cJ8_hugeLength_7cf53 15 = .ok (.dup, 1) := by decide +kernel
theorem dJ8_hugeLength_7cf53_16 : decode cJ8_hugeLength_7cf53 16 = .ok (.invokespecial 91, 3) := by decide +kernel
theorem dJ8_hugeLength_7cf53_19 : decode cJ8_hugeLength_7cf53 19 = .ok (.ldc 206, 2) := by decide +kernel
theorem dJ8_hugeLength_7cf53_21 : decode cJ8_hugeLength_7cf53 21 = .ok (.invokevirtual 94, 3) := by decide +kernel
theorem dJ8_hugeLength_7cf53_24 : decode cJ8_hugeLength_7cf53 24 = .ok (.iload_n 0, 1) := by decide +kernel
theorem dJ8_hugeLength_7cf53_25 : decode cJ8_hugeLength_7cf53 25 = .ok (.invokevirtual 98, 3) := by decide +kernel
theorem dJ8_hugeLength_7cf53_28 : decode cJ8_hugeLength_7cf53 28 = .ok (.ldc 208, 2) := by decide +kernel
theorem dJ8_hugeLength_7cf53_30 : decode cJ8_hugeLength_7cf53 30 = .ok (.invokevirtual 94, 3) := by decide +kernel
theorem dJ8_hugeLength_7cf53_33 : decode cJ8_hugeLength_7cf53 33 = .ok (.iload_n 1, 1) := by decide +kernel
theorem dJ8_hugeLength_7cf53_34 : decode cJ8_hugeLength_7cf53 34 = .ok (.invokevirtual 98, 3) := by decide +kernel
theorem dJ8_hugeLength_7cf53_37 : decode cJ8_hugeLength_7cf53 37 = .ok (.ldc 210, 2) := by decide +kernel
theorem dJ8_hugeLength_7cf53_39 : decode cJ8_hugeLength_7cf53 39 = .ok (.invokevirtual 94, 3) := by decide +kernel
theorem dJ8_hugeLength_7cf53_42 : decode cJ8_hugeLength_7cf53 42 = .ok (.invokevirtual 101, 3) := by decide +kernel
theorem dJ8_hugeLength_7cf53_45 : decode cJ8_hugeLength_7cf53 45 = .ok (.invokespecial 212, 3) := by decide +kernel
theorem dJ8_hugeLength_7cf53_48 : decode cJ8_hugeLength_7cf53 48 = .ok (.athrow, 1) := by decide +kernel
theorem dJ8_hugeLength_7cf53_49 : decode cJ8_hugeLength_7cf53 49 = .ok (.iload_n 2, 1) := by decide +kernel
theorem dJ8_hugeLength_7cf53_50 : decode cJ8_hugeLength_7cf53 50 = .ok (.ldc 200, 2) := by decide +kernel
theorem dJ8_hugeLength_7cf53_52 : decode cJ8_hugeLength_7cf53 52 = .ok (.if_icmp .gt 6, 3) := by decide +kernel
theorem dJ8_hugeLength_7cf53_55 : decode cJ8_hugeLength_7cf53 55 = .ok (.ldc 200, 2) := by decide +kernel
theorem dJ8_hugeLength_7cf53_57 : decode cJ8_hugeLength_7cf53 57 = .ok (.ireturn, 1) := by decide +kernel
theorem dJ8_hugeLength_7cf53_58 : decode cJ8_hugeLength_7cf53 58 = .ok (.iload_n 2, 1) := by decide +kernel
theorem dJ8_hugeLength_7cf53_59 : decode cJ8_hugeLength_7cf53 59 = .ok (.ireturn, 1) := by decide +kernel
theorem dJ3_checkIndex_8e157_0 : decode cJ3_checkIndex_8e157 0 = .ok (.iload_n 0, 1) := by decide +kernel
theorem dJ3_checkIndex_8e157_1 : decode cJ3_checkIndex_8e157 1 = .ok (.ifCond .lt 8, 3) := by decide +kernel
theorem dJ3_checkIndex_8e157_4 : decode cJ3_checkIndex_8e157 4 = .ok (.iload_n 0, 1) := by decide +kernel
theorem dJ3_checkIndex_8e157_5 : decode cJ3_checkIndex_8e157 5 = .ok (.iload_n 1, 1) := by decide +kernel
theorem dJ3_checkIndex_8e157_6 : decode cJ3_checkIndex_8e157 6 = .ok (.if_icmp .lt 10, 3) := by decide +kernel
theorem dJ3_checkIndex_8e157_9 : decode cJ3_checkIndex_8e157 9 = .ok (.aload_n 2, 1) := by decide +kernel
theorem dJ3_checkIndex_8e157_10 : decode cJ3_checkIndex_8e157 10 = .ok (.iload_n 0, 1) := by decide +kernel
theorem dJ3_checkIndex_8e157_11 : decode cJ3_checkIndex_8e157 11 = .ok (.iload_n 1, 1) := by decide +kernel
theorem dJ3_checkIndex_8e157_12 : decode cJ3_checkIndex_8e157 12 = .ok (.invokestatic 95, 3) := by decide +kernel
theorem dJ3_checkIndex_8e157_15 : decode cJ3_checkIndex_8e157 15 = .ok (.athrow, 1) := by decide +kernel
theorem dJ3_checkIndex_8e157_16 : decode cJ3_checkIndex_8e157 16 = .ok (.iload_n 0, 1) := by decide +kernel
theorem dJ3_checkIndex_8e157_17 : decode cJ3_checkIndex_8e157 17 = .ok (.ireturn, 1) := by decide +kernel
