set_option maxRecDepth 20000 in
theorem ggX5_findCopy_Jx4a65c_get_915e3 : GoodIn wsX5_findCopy wsJx4a65c_get_915e3 := goodIn_r _ [14, 10, 15, 16, 17, 18, 19, 20, 21, 22, 23, 24, 25, 8, 26, 27, 35, 36, 37] (by decide +kernel) (by decide +kernel)
set_option maxRecDepth 20000 in
theorem gX5_findCopy_Jx4a65c_get_915e3 : GoodIn wsX5_findCopy (wsV RX5 162 RJx4a65c yJx4a65c_get_915e3 wsJx4a65c_get_915e3) := goodIn_app (goodIn_of _ (by decide +kernel)) ggX5_findCopy_Jx4a65c_get_915e3
theorem dX5_findCopy_0 : decode cX5_findCopy 0 = .ok (.iload_n 1, 1) := by decide +kernel
theorem dX5_findCopy_1 : decode cX5_findCopy 1 = .ok (.ifCond .lt 14, 3) := by decide +kernel
theorem dX5_findCopy_4 : decode cX5_findCopy 4 = .ok (.iload_n 1, 1) := by decide +kernel
theorem dX5_findCopy_5 : decode cX5_findCopy 5 = .ok (.aload_n 0, 1) := by decide +kernel
theorem dX5_findCopy_6 : decode cX5_findCopy 6 = .ok (.getfield 16, 3) := by decide +kernel
theorem dX5_findCopy_9 : decode cX5_findCopy 9 = .ok (.invokevirtual 97, 3) := by decide +kernel
theorem dX5_findCopy_12 : decode cX5_findCopy 12 = .ok (.if_icmp .lt 14, 3) := by decide +kernel
theorem dX5_findCopy_15 : decode cX5_findCopy 15 = .ok (.new 284, 3) := by decide +kernel
theorem dX5_findCopy_18 : decode cX5_findCopy 18 = .ok (.dup, 1) := by decide +kernel
theorem dX5_findCopy_19 : decode cX5_findCopy 19 = .ok (.ldc_w 286, 3) := by decide +kernel
theorem dX5_findCopy_22 : decode cX5_findCopy 22 = .ok (.invokespecial 288, 3) := by decide +kernel
theorem dX5_findCopy_25 : decode cX5_findCopy 25 = .ok (.athrow, 1) := by decide +kernel
theorem dX5_findCopy_26 : decode cX5_findCopy 26 = .ok (.aload_n 0, 1) := by decide +kernel
theorem dX5_findCopy_27 : decode cX5_findCopy 27 = .ok (.getfield 16, 3) := by decide +kernel
theorem dX5_findCopy_30 : decode cX5_findCopy 30 = .ok (.iload_n 1, 1) := by decide +kernel
theorem dX5_findCopy_31 : decode cX5_findCopy 31 = .ok (.invokevirtual 162, 3) := by decide +kernel
theorem dX5_findCopy_34 : decode cX5_findCopy 34 = .ok (.checkcast 49, 3) := by decide +kernel
theorem dX5_findCopy_37 : decode cX5_findCopy 37 = .ok (.areturn, 1) := by decide +kernel
set_option maxRecDepth 20000 in
theorem ggX5_findHouse_Jx4a65c_size_8abf5 : GoodIn wsX5_findHouse wsJx4a65c_size_8abf5 := goodIn_r _ [9, 10, 35, 36, 37] (by decide +kernel) (by decide +kernel)
set_option maxRecDepth 20000 in
theorem gX5_findHouse_Jx4a65c_size_8abf5 : GoodIn wsX5_findHouse (wsV RX5 97 RJx4a65c yJx4a65c_size_8abf5 wsJx4a65c_size_8abf5) := goodIn_app (goodIn_of _ (by decide +kernel)) ggX5_findHouse_Jx4a65c_size_8abf5
set_option maxRecDepth 20000 in
theorem ggX5_findHouse_Jx4a65c_get_915e3 : GoodIn wsX5_findHouse wsJx4a65c_get_915e3 := goodIn_r _ [14, 10, 15, 16, 17, 18, 19, 20, 21, 22, 23, 24, 25, 8, 26, 27, 35, 36, 37] (by decide +kernel) (by decide +kernel)
set_option maxRecDepth 20000 in
theorem gX5_findHouse_Jx4a65c_get_915e3 : GoodIn wsX5_findHouse (wsV RX5 162 RJx4a65c yJx4a65c_get_915e3 wsJx4a65c_get_915e3) := goodIn_app (goodIn_of _ (by decide +kernel)) ggX5_findHouse_Jx4a65c_get_915e3
theorem dX5_findHouse_0 : decode cX5_findHouse 0 = .ok (.iload_n 1, 1) := by decide +kernel
theorem dX5_findHouse_1 : decode cX5_findHouse 1 = .ok (.ifCond .lt 14, 3) := by decide +kernel
theorem dX5_findHouse_4 : decode cX5_findHouse 4 = .ok (.iload_n 1, 1) := by decide +kernel
theorem dX5_findHouse_5 : decode cX5_findHouse 5 = .ok (.aload_n 0, 1) := by decide +kernel
theorem dX5_findHouse_6 : decode cX5_findHouse 6 = .ok (.getfield 10, 3) := by decide +kernel
theorem dX5_findHouse_9 : decode cX5_findHouse 9 = .ok (.invokevirtual 97, 3) := by decide +kernel
theorem dX5_findHouse_12 : decode cX5_findHouse 12 = .ok (.if_icmp .lt 14, 3) := by decide +kernel
theorem dX5_findHouse_15 : decode cX5_findHouse 15 = .ok (.new 284, 3) := by decide +kernel
theorem dX5_findHouse_18 : decode cX5_findHouse 18 = .ok (.dup, 1) := by decide +kernel
theorem dX5_findHouse_19 : decode cX5_findHouse 19 = .ok (.ldc_w 289, 3) := by decide +kernel
theorem dX5_findHouse_22 : decode cX5_findHouse 22 = .ok (.invokespecial 288, 3) := by decide +kernel
theorem dX5_findHouse_25 : decode cX5_findHouse 25 = .ok (.athrow, 1) := by decide +kernel
theorem dX5_findHouse_26 : decode cX5_findHouse 26 = .ok (.aload_n 0, 1) := by decide +kernel
theorem dX5_findHouse_27 : decode cX5_findHouse 27 = .ok (.getfield 10, 3) := by decide +kernel
theorem dX5_findHouse_30 : decode cX5_findHouse 30 = .ok (.iload_n 1, 1) := by decide +kernel
theorem dX5_findHouse_31 : decode cX5_findHouse 31 = .ok (.invokevirtual 162, 3) := by decide +kernel
theorem dX5_findHouse_34 : decode cX5_findHouse 34 = .ok (.checkcast 40, 3) := by decide +kernel
theorem dX5_findHouse_37 : decode cX5_findHouse 37 = .ok (.areturn, 1) := by decide +kernel
set_option maxRecDepth 20000 in
theorem ggX5_findLoan_Jx4a65c_size_8abf5 : GoodIn wsX5_findLoan wsJx4a65c_size_8abf5 := goodIn_r _ [9, 10, 35, 36, 37] (by decide +kernel) (by decide +kernel)
set_option maxRecDepth 20000 in
theorem gX5_findLoan_Jx4a65c_size_8abf5 : GoodIn wsX5_findLoan (wsV RX5 97 RJx4a65c yJx4a65c_size_8abf5 wsJx4a65c_size_8abf5) := goodIn_app (goodIn_of _ (by decide +kernel)) ggX5_findLoan_Jx4a65c_size_8abf5
set_option maxRecDepth 20000 in
theorem ggX5_findLoan_Jx4a65c_get_915e3 : GoodIn wsX5_findLoan wsJx4a65c_get_915e3 := goodIn_r _ [14, 10, 15, 16, 17, 18, 19, 20, 21, 22, 23, 24, 25, 8, 26, 27, 35, 36, 37] (by decide +kernel) (by decide +kernel)
set_option maxRecDepth 20000 in
theorem gX5_findLoan_Jx4a65c_get_915e3 : GoodIn wsX5_findLoan (wsV RX5 162 RJx4a65c yJx4a65c_get_915e3 wsJx4a65c_get_915e3) := goodIn_app (goodIn_of _ (by decide +kernel)) ggX5_findLoan_Jx4a65c_get_915e3
theorem dX5_findLoan_0 : decode cX5_findLoan 0 = .ok (.iload_n 1, 1) := by decide +kernel
theorem dX5_findLoan_1 : decode cX5_findLoan 1 = .ok (.ifCond .lt 14, 3) := by decide +kernel
theorem dX5_findLoan_4 : decode cX5_findLoan 4 = .ok (.iload_n 1, 1) := by decide +kernel
theorem dX5_findLoan_5 : decode cX5_findLoan 5 = .ok (.aload_n 0, 1) := by decide +kernel
theorem dX5_findLoan_6 : decode cX5_findLoan 6 = .ok (.getfield 22, 3) := by decide +kernel
theorem dX5_findLoan_9 : decode cX5_findLoan 9 = .ok (.invokevirtual 97, 3) := by decide +kernel
theorem dX5_findLoan_12 : decode cX5_findLoan 12 = .ok (.if_icmp .lt 14, 3) := by decide +kernel
theorem dX5_findLoan_15 : decode cX5_findLoan 15 = .ok (.new 284, 3) := by decide +kernel
theorem dX5_findLoan_18 : decode cX5_findLoan 18 = .ok (.dup, 1) := by decide +kernel
theorem dX5_findLoan_19 : decode cX5_findLoan 19 = .ok (.ldc_w 291, 3) := by decide +kernel
theorem dX5_findLoan_22 : decode cX5_findLoan 22 = .ok (.invokespecial 288, 3) := by decide +kernel
theorem dX5_findLoan_25 : decode cX5_findLoan 25 = .ok (.athrow, 1) := by decide +kernel
theorem dX5_findLoan_26 : decode cX5_findLoan 26 = .ok (.aload_n 0, 1) := by decide +kernel
theorem dX5_findLoan_27 : decode cX5_findLoan 27 = .ok (.getfield 22, 3) := by decide +kernel
theorem dX5_findLoan_30 : decode cX5_findLoan 30 = .ok (.iload_n 1, 1) := by decide +kernel
theorem dX5_findLoan_31 : decode cX5_findLoan 31 = .ok (.invokevirtual 162, 3) := by decide +kernel
theorem dX5_findLoan_34 : decode cX5_findLoan 34 = .ok (.checkcast 186, 3) := by decide +kernel
theorem dX5_findLoan_37 : decode cX5_findLoan 37 = .ok (.areturn, 1) := by decide +kernel
set_option maxRecDepth 20000 in
theorem ggX5_requireLetter_Jx4a65c_size_8abf5 : GoodIn wsX5_requireLetter wsJx4a65c_size_8abf5 := goodIn_r _ [8, 9, 17, 18, 19] (by decide +kernel) (by decide +kernel)
set_option maxRecDepth 20000 in
theorem gX5_requireLetter_Jx4a65c_size_8abf5 : GoodIn wsX5_requireLetter (wsV RX5 97 RJx4a65c yJx4a65c_size_8abf5 wsJx4a65c_size_8abf5) := goodIn_app (goodIn_of _ (by decide +kernel)) ggX5_requireLetter_Jx4a65c_size_8abf5
theorem dX5_requireLetter_0 : decode cX5_requireLetter 0 = .ok (.iload_n 1, 1) := by decide +kernel
theorem dX5_requireLetter_1 : decode cX5_requireLetter 1 = .ok (.ifCond .lt 14, 3) := by decide +kernel
theorem dX5_requireLetter_4 : decode cX5_requireLetter 4 = .ok (.iload_n 1, 1) := by decide +kernel
theorem dX5_requireLetter_5 : decode cX5_requireLetter 5 = .ok (.aload_n 0, 1) := by decide +kernel
theorem dX5_requireLetter_6 : decode cX5_requireLetter 6 = .ok (.getfield 19, 3) := by decide +kernel
theorem dX5_requireLetter_9 : decode cX5_requireLetter 9 = .ok (.invokevirtual 97, 3) := by decide +kernel
theorem dX5_requireLetter_12 : decode cX5_requireLetter 12 = .ok (.if_icmp .lt 14, 3) := by decide +kernel
theorem dX5_requireLetter_15 : decode cX5_requireLetter 15 = .ok (.new 284, 3) := by decide +kernel
theorem dX5_requireLetter_18 : decode cX5_requireLetter 18 = .ok (.dup, 1) := by decide +kernel
theorem dX5_requireLetter_19 : decode cX5_requireLetter 19 = .ok (.ldc_w 293, 3) := by decide +kernel
theorem dX5_requireLetter_22 : decode cX5_requireLetter 22 = .ok (.invokespecial 288, 3) := by decide +kernel
theorem dX5_requireLetter_25 : decode cX5_requireLetter 25 = .ok (.athrow, 1) := by decide +kernel
theorem dX5_requireLetter_26 : decode cX5_requireLetter 26 = .ok (.return_, 1) := by decide +kernel
theorem dX5_requirePlace_0 : decode cX5_requirePlace 0 = .ok (.iload_n 0, 1) := by decide +kernel
theorem dX5_requirePlace_1 : decode cX5_requirePlace 1 = .ok (.ifCond .lt 9, 3) := by decide +kernel
theorem dX5_requirePlace_4 : decode cX5_requirePlace 4 = .ok (.iload_n 0, 1) := by decide +kernel
theorem dX5_requirePlace_5 : decode cX5_requirePlace 5 = .ok (.bipush 24, 2) := by decide +kernel
theorem dX5_requirePlace_7 : decode cX5_requirePlace 7 = .ok (.if_icmp .lt 14, 3) := by decide +kernel
theorem dX5_requirePlace_10 : decode cX5_requirePlace 10 = .ok (.new 284, 3) := by decide +kernel
theorem dX5_requirePlace_13 : decode cX5_requirePlace 13 = .ok (.dup, 1) := by decide +kernel
theorem dX5_requirePlace_14 : decode cX5_requirePlace 14 = .ok (.ldc_w 295, 3) := by decide +kernel
theorem dX5_requirePlace_17 : decode cX5_requirePlace 17 = .ok (.invokespecial 288, 3) := by decide +kernel
theorem dX5_requirePlace_20 : decode cX5_requirePlace 20 = .ok (.athrow, 1) := by decide +kernel
theorem dX5_requirePlace_21 : decode cX5_requirePlace 21 = .ok (.return_, 1) := by decide +kernel
theorem dX5_requireScribe_0 : decode cX5_requireScribe 0 = .ok (.iload_n 0, 1) := by decide +kernel
theorem dX5_requireScribe_1 : decode cX5_requireScribe 1 = .ok (.ifCond .lt 9, 3) := by decide +kernel
theorem dX5_requireScribe_4 : decode cX5_requireScribe 4 = .ok (.iload_n 0, 1) := by decide +kernel
theorem dX5_requireScribe_5 : decode cX5_requireScribe 5 = .ok (.bipush 6, 2) := by decide +kernel
theorem dX5_requireScribe_7 : decode cX5_requireScribe 7 = .ok (.if_icmp .lt 14, 3) := by decide +kernel
theorem dX5_requireScribe_10 : decode cX5_requireScribe 10 = .ok (.new 284, 3) := by decide +kernel
theorem dX5_requireScribe_13 : decode cX5_requireScribe 13 = .ok (.dup, 1) := by decide +kernel
theorem dX5_requireScribe_14 : decode cX5_requireScribe 14 = .ok (.ldc_w 297, 3) := by decide +kernel
theorem dX5_requireScribe_17 : decode cX5_requireScribe 17 = .ok (.invokespecial 288, 3) := by decide +kernel
theorem dX5_requireScribe_20 : decode cX5_requireScribe 20 = .ok (.athrow, 1) := by decide +kernel
theorem dX5_requireScribe_21 : decode cX5_requireScribe 21 = .ok (.return_, 1) := by decide +kernel
set_option maxRecDepth 20000 in
theorem ggX5_requireError_X5_requirePlace : GoodIn wsX5_requireError wsX5_requirePlace := goodIn_ca (goodIn_r _ [6, 7, 8] (by decide +kernel) (by decide +kernel)) (goodIn_sub (fun _ h => List.mem_cons_of_mem _ (List.mem_append_right _ h)) (by decide +kernel))
set_option maxRecDepth 20000 in
theorem gX5_requireError_X5_requirePlace : GoodIn wsX5_requireError (va_wsS RX5 54 yX5_requirePlace wsX5_requirePlace) := goodIn_app (goodIn_of _ (by decide +kernel)) ggX5_requireError_X5_requirePlace
theorem dX5_requireError_0 : decode cX5_requireError 0 = .ok (.iload_n 0, 1) := by decide +kernel
theorem dX5_requireError_1 : decode cX5_requireError 1 = .ok (.invokestatic 54, 3) := by decide +kernel
theorem dX5_requireError_4 : decode cX5_requireError 4 = .ok (.iload_n 1, 1) := by decide +kernel
theorem dX5_requireError_5 : decode cX5_requireError 5 = .ok (.ifCond .le 9, 3) := by decide +kernel
theorem dX5_requireError_8 : decode cX5_requireError 8 = .ok (.iload_n 1, 1) := by decide +kernel
theorem dX5_requireError_9 : decode cX5_requireError 9 = .ok (.bipush 10, 2) := by decide +kernel
theorem dX5_requireError_11 : decode cX5_requireError 11 = .ok (.if_icmp .lt 14, 3) := by decide +kernel
theorem dX5_requireError_14 : decode cX5_requireError 14 = .ok (.new 57, 3) := by decide +kernel
theorem dX5_requireError_17 : decode cX5_requireError 17 = .ok (.dup, 1) := by decide +kernel
theorem dX5_requireError_18 : decode cX5_requireError 18 = .ok (.ldc_w 299, 3) := by decide +kernel
theorem dX5_requireError_21 : decode cX5_requireError 21 = .ok (.invokespecial 61, 3) := by decide +kernel
theorem dX5_requireError_24 : decode cX5_requireError 24 = .ok (.athrow, 1) := by decide +kernel
theorem dX5_requireError_25 : decode cX5_requireError 25 = .ok (.return_, 1) := by decide +kernel
theorem dX5_numberOf_0 : decode cX5_numberOf 0 = .ok (.aload_n 0, 1) := by decide +kernel
theorem dX5_numberOf_1 : decode cX5_numberOf 1 = .ok (.ifnonnull 7, 3) := by decide +kernel
theorem dX5_numberOf_4 : decode cX5_numberOf 4 = .ok (.iconst (-1), 1) := by decide +kernel
theorem dX5_numberOf_5 : decode cX5_numberOf 5 = .ok (.goto 7, 3) := by decide +kernel
theorem dX5_numberOf_8 : decode cX5_numberOf 8 = .ok (.aload_n 0, 1) := by decide +kernel
theorem dX5_numberOf_9 : decode cX5_numberOf 9 = .ok (.getfield 118, 3) := by decide +kernel
theorem dX5_numberOf_12 : decode cX5_numberOf 12 = .ok (.ireturn, 1) := by decide +kernel
set_option maxRecDepth 20000 in
theorem ggX5_enterFamily_Jx4a65c_size_8abf5 : GoodIn wsX5_enterFamily wsJx4a65c_size_8abf5 := goodIn_r _ [9, 10, 70, 71, 72] (by decide +kernel) (by decide +kernel)
set_option maxRecDepth 20000 in
theorem gX5_enterFamily_Jx4a65c_size_8abf5 : GoodIn wsX5_enterFamily (wsV RX5 97 RJx4a65c yJx4a65c_size_8abf5 wsJx4a65c_size_8abf5) := goodIn_app (goodIn_of _ (by decide +kernel)) ggX5_enterFamily_Jx4a65c_size_8abf5
set_option maxRecDepth 20000 in
theorem ggX5_enterFamily_Jx4a65c_get_915e3 : GoodIn wsX5_enterFamily wsJx4a65c_get_915e3 := goodIn_r _ [14, 10, 15, 16, 17, 18, 19, 20, 21, 22, 23, 24, 25, 8, 26, 27, 70, 71, 72] (by decide +kernel) (by decide +kernel)
set_option maxRecDepth 20000 in
theorem gX5_enterFamily_Jx4a65c_get_915e3 : GoodIn wsX5_enterFamily (wsV RX5 162 RJx4a65c yJx4a65c_get_915e3 wsJx4a65c_get_915e3) := goodIn_app (goodIn_of _ (by decide +kernel)) ggX5_enterFamily_Jx4a65c_get_915e3
set_option maxRecDepth 20000 in
theorem ggX5_enterFamily_X0_isKinOf : GoodIn wsX5_enterFamily wsX0_isKinOf := goodIn_r _ [32, 33, 34, 35, 31, 36, 37, 38, 39, 40, 41, 42, 43, 56, 57, 58, 59, 60, 61, 62] (by decide +kernel) (by decide +kernel)
set_option maxRecDepth 20000 in
theorem gX5_enterFamily_X0_isKinOf : GoodIn wsX5_enterFamily (wsV RX5 301 RX0 yX0_isKinOf wsX0_isKinOf) := goodIn_app (goodIn_of _ (by decide +kernel)) ggX5_enterFamily_X0_isKinOf
set_option maxRecDepth 20000 in
theorem ggX5_enterFamily_X5_joinFamilies : GoodIn wsX5_enterFamily wsX5_joinFamilies := goodIn_r _ [48, 49, 50, 51, 52, 53, 54, 55, 3, 4, 2, 5, 6, 7, 8, 9, 10, 11, 12, 13, 14, 15, 16, 17, 18, 19, 20, 21, 22, 23, 24, 25, 26, 27, 63, 64, 65, 66, 67, 68, 69, 56, 57, 58, 59, 60, 61, 62, 70, 71, 72] (by decide +kernel) (by decide +kernel)
set_option maxRecDepth 20000 in
theorem gX5_enterFamily_X5_joinFamilies : GoodIn wsX5_enterFamily (wsV RX5 130 RX5 yX5_joinFamilies wsX5_joinFamilies) := goodIn_app (goodIn_of _ (by decide +kernel)) ggX5_enterFamily_X5_joinFamilies
theorem dX5_enterFamily_0 : decode cX5_enterFamily 0 = .ok (.aload_n 1, 1) := by decide +kernel
theorem dX5_enterFamily_1 : decode cX5_enterFamily 1 = .ok (.aload_n 1, 1) := by decide +kernel
theorem dX5_enterFamily_2 : decode cX5_enterFamily 2 = .ok (.getfield 118, 3) := by decide +kernel
theorem dX5_enterFamily_5 : decode cX5_enterFamily 5 = .ok (.putfield 127, 3) := by decide +kernel
theorem dX5_enterFamily_8 : decode cX5_enterFamily 8 = .ok (.iconst 0, 1) := by decide +kernel
theorem dX5_enterFamily_9 : decode cX5_enterFamily 9 = .ok (.istore_n 2, 1) := by decide +kernel
theorem dX5_enterFamily_10 : decode cX5_enterFamily 10 = .ok (.iload_n 2, 1) := by decide +kernel
theorem dX5_enterFamily_11 : decode cX5_enterFamily 11 = .ok (.aload_n 1, 1) := by decide +kernel
theorem dX5_enterFamily_12 : decode cX5_enterFamily 12 = .ok (.getfield 118, 3) := by decide +kernel
theorem dX5_enterFamily_15 : decode cX5_enterFamily 15 = .ok (.if_icmp .ge 63, 3) := by decide +kernel
theorem dX5_enterFamily_18 : decode cX5_enterFamily 18 = .ok (.iload_n 2, 1) := by decide +kernel
theorem dX5_enterFamily_19 : decode cX5_enterFamily 19 = .ok (.aload_n 0, 1) := by decide +kernel
theorem dX5_enterFamily_20 : decode cX5_enterFamily 20 = .ok (.getfield 16, 3) := by decide +kernel
theorem dX5_enterFamily_23 : decode cX5_enterFamily 23 = .ok (.invokevirtual 97, 3) := by decide +kernel
theorem dX5_enterFamily_26 : decode cX5_enterFamily 26 = .ok (.if_icmp .ge 52, 3) := by decide +kernel
theorem dX5_enterFamily_29 : decode cX5_enterFamily 29 = .ok (.aload_n 0, 1) := by decide +kernel
theorem dX5_enterFamily_30 : decode cX5_enterFamily 30 = .ok (.getfield 16, 3) := by decide +kernel
theorem dX5_enterFamily_33 : decode cX5_enterFamily 33 = .ok (.iload_n 2, 1) := by decide +kernel
theorem dX5_enterFamily_34 : decode cX5_enterFamily 34 = .ok (.invokevirtual 162, 3) := by decide +kernel
theorem dX5_enterFamily_37 : decode cX5_enterFamily 37 = .ok (.checkcast 49, 3) := by decide +kernel
theorem dX5_enterFamily_40 : decode cX5_enterFamily 40 = .ok (.astore_n 3, 1) := by decide +kernel
theorem dX5_enterFamily_41 : decode cX5_enterFamily 41 = .ok (.aload_n 3, 1) := by decide +kernel
theorem dX5_enterFamily_42 : decode cX5_enterFamily 42 = .ok (.getfield 127, 3) := by decide +kernel
theorem dX5_enterFamily_45 : decode cX5_enterFamily 45 = .ok (.aload_n 1, 1) := by decide +kernel
theorem dX5_enterFamily_46 : decode cX5_enterFamily 46 = .ok (.getfield 127, 3) := by decide +kernel
theorem dX5_enterFamily_49 : decode cX5_enterFamily 49 = .ok (.if_icmp .eq 23, 3) := by decide +kernel
theorem dX5_enterFamily_52 : decode cX5_enterFamily 52 = .ok (.aload_n 1, 1) := by decide +kernel
theorem dX5_enterFamily_53 : decode cX5_enterFamily 53 = .ok (.aload_n 3, 1) := by decide +kernel
theorem dX5_enterFamily_54 : decode cX5_enterFamily 54 = .ok (.invokevirtual 301, 3) := by decide +kernel
theorem dX5_enterFamily_57 : decode cX5_enterFamily 57 = .ok (.ifCond .eq 15, 3) := by decide +kernel
theorem dX5_enterFamily_60 : decode cX5_enterFamily 60 = .ok (.aload_n 0, 1) := by decide +kernel
theorem dX5_enterFamily_61 : decode cX5_enterFamily 61 = .ok (.aload_n 3, 1) := by decide +kernel
theorem dX5_enterFamily_62 : decode cX5_enterFamily 62 = .ok (.getfield 127, 3) := by decide +kernel
theorem dX5_enterFamily_65 : decode cX5_enterFamily 65 = .ok (.aload_n 1, 1) := by decide +kernel
theorem dX5_enterFamily_66 : decode cX5_enterFamily 66 = .ok (.getfield 127, 3) := by decide +kernel
theorem dX5_enterFamily_69 : decode cX5_enterFamily 69 = .ok (.invokevirtual 130, 3) := by decide +kernel
theorem dX5_enterFamily_72 : decode cX5_enterFamily 72 = .ok (.iinc 2 1, 3) := by decide +kernel
theorem dX5_enterFamily_75 : decode cX5_enterFamily 75 = .ok (.goto (-65), 3) := by decide +kernel
theorem dX5_enterFamily_78 : decode cX5_enterFamily 78 = .ok (.return_, 1) := by decide +kernel
set_option maxRecDepth 20000 in
theorem ggX5_joinFamilies_Jx4a65c_size_8abf5 : GoodIn wsX5_joinFamilies wsJx4a65c_size_8abf5 := goodIn_r _ [15, 16, 48, 49, 50] (by decide +kernel) (by decide +kernel)
set_option maxRecDepth 20000 in
theorem gX5_joinFamilies_Jx4a65c_size_8abf5 : GoodIn wsX5_joinFamilies (wsV RX5 97 RJx4a65c yJx4a65c_size_8abf5 wsJx4a65c_size_8abf5) := goodIn_app (goodIn_of _ (by decide +kernel)) ggX5_joinFamilies_Jx4a65c_size_8abf5
set_option maxRecDepth 20000 in
theorem ggX5_joinFamilies_Jx4a65c_get_915e3 : GoodIn wsX5_joinFamilies wsJx4a65c_get_915e3 := goodIn_r _ [20, 16, 21, 22, 23, 24, 25, 26, 27, 28, 29, 30, 31, 14, 32, 33, 48, 49, 50] (by decide +kernel) (by decide +kernel)
set_option maxRecDepth 20000 in
theorem gX5_joinFamilies_Jx4a65c_get_915e3 : GoodIn wsX5_joinFamilies (wsV RX5 162 RJx4a65c yJx4a65c_get_915e3 wsJx4a65c_get_915e3) := goodIn_app (goodIn_of _ (by decide +kernel)) ggX5_joinFamilies_Jx4a65c_get_915e3
theorem dX5_joinFamilies_0 : decode cX5_joinFamilies 0 = .ok (.iload_n 1, 1) := by decide +kernel
theorem dX5_joinFamilies_1 : decode cX5_joinFamilies 1 = .ok (.iload_n 2, 1) := by decide +kernel
theorem dX5_joinFamilies_2 : decode cX5_joinFamilies 2 = .ok (.invokestatic 304, 3) := by decide +kernel
theorem dX5_joinFamilies_5 : decode cX5_joinFamilies 5 = .ok (.istore_n 3, 1) := by decide +kernel
theorem dX5_joinFamilies_6 : decode cX5_joinFamilies 6 = .ok (.iload_n 1, 1) := by decide +kernel
theorem dX5_joinFamilies_7 : decode cX5_joinFamilies 7 = .ok (.iload_n 2, 1) := by decide +kernel
theorem dX5_joinFamilies_8 : decode cX5_joinFamilies 8 = .ok (.invokestatic 310, 3) := by decide +kernel
theorem dX5_joinFamilies_11 : decode cX5_joinFamilies 11 = .ok (.istore 4, 2) := by decide +kernel
theorem dX5_joinFamilies_13 : decode cX5_joinFamilies 13 = .ok (.iconst 0, 1) := by decide +kernel
theorem dX5_joinFamilies_14 : decode cX5_joinFamilies 14 = .ok (.istore 5, 2) := by decide +kernel
theorem dX5_joinFamilies_16 : decode cX5_joinFamilies 16 = .ok (.iload 5, 2) := by decide +kernel
theorem dX5_joinFamilies_18 : decode cX5_joinFamilies 18 = .ok (.aload_n 0, 1) := by decide +kernel
theorem dX5_joinFamilies_19 : decode cX5_joinFamilies 19 = .ok (.getfield 16, 3) := by decide +kernel
theorem dX5_joinFamilies_22 : decode cX5_joinFamilies 22 = .ok (.invokevirtual 97, 3) := by decide +kernel
theorem dX5_joinFamilies_25 : decode cX5_joinFamilies 25 = .ok (.if_icmp .ge 39, 3) := by decide +kernel
theorem dX5_joinFamilies_28 : decode cX5_joinFamilies 28 = .ok (.aload_n 0, 1) := by decide +kernel
theorem dX5_joinFamilies_29 : decode cX5_joinFamilies 29 = .ok (.getfield 16, 3) := by decide +kernel
theorem dX5_joinFamilies_32 : decode cX5_joinFamilies 32 = .ok (.iload 5, 2) := by decide +kernel
theorem dX5_joinFamilies_34 : decode cX5_joinFamilies 34 = .ok (.invokevirtual 162, 3) := by decide +kernel
theorem dX5_joinFamilies_37 : decode cX5_joinFamilies 37 = .ok (.checkcast 49, 3) := by decide +kernel
theorem dX5_joinFamilies_40 : decode cX5_joinFamilies 40 = .ok (.astore 6, 2) := by decide +kernel
theorem dX5_joinFamilies_42 : decode cX5_joinFamilies 42 = .ok (.aload 6, 2) := by decide +kernel
theorem dX5_joinFamilies_44 : decode cX5_joinFamilies 44 = .ok (.getfield 127, 3) := by decide +kernel
theorem dX5_joinFamilies_47 : decode cX5_joinFamilies 47 = .ok (.iload 4, 2) := by decide +kernel
theorem dX5_joinFamilies_49 : decode cX5_joinFamilies 49 = .ok (.if_icmp .ne 9, 3) := by decide +kernel
theorem dX5_joinFamilies_52 : decode cX5_joinFamilies 52 = .ok (.aload 6, 2) := by decide +kernel
theorem dX5_joinFamilies_54 : decode cX5_joinFamilies 54 = .ok (.iload_n 3, 1) := by decide +kernel
theorem dX5_joinFamilies_55 : decode cX5_joinFamilies 55 = .ok (.putfield 127, 3) := by decide +kernel
theorem dX5_joinFamilies_58 : decode cX5_joinFamilies 58 = .ok (.iinc 5 1, 3) := by decide +kernel
theorem dX5_joinFamilies_61 : decode cX5_joinFamilies 61 = .ok (.goto (-45), 3) := by decide +kernel
theorem dX5_joinFamilies_64 : decode cX5_joinFamilies 64 = .ok (.return_, 1) := by decide +kernel
set_option maxRecDepth 20000 in
theorem ggX5_findFamiliesAnew_Jx4a65c_size_8abf5 : GoodIn wsX5_findFamiliesAnew wsJx4a65c_size_8abf5 := goodIn_r _ [7, 8, 67, 68, 69] (by decide +kernel) (by decide +kernel)
set_option maxRecDepth 20000 in
theorem gX5_findFamiliesAnew_Jx4a65c_size_8abf5 : GoodIn wsX5_findFamiliesAnew (wsV RX5 97 RJx4a65c yJx4a65c_size_8abf5 wsJx4a65c_size_8abf5) := goodIn_app (goodIn_of _ (by decide +kernel)) ggX5_findFamiliesAnew_Jx4a65c_size_8abf5
set_option maxRecDepth 20000 in
theorem ggX5_findFamiliesAnew_Jx4a65c_get_915e3 : GoodIn wsX5_findFamiliesAnew wsJx4a65c_get_915e3 := goodIn_r _ [12, 8, 13, 14, 15, 16, 17, 18, 19, 20, 21, 22, 23, 6, 24, 25, 67, 68, 69] (by decide +kernel) (by decide +kernel)
set_option maxRecDepth 20000 in
theorem gX5_findFamiliesAnew_Jx4a65c_get_915e3 : GoodIn wsX5_findFamiliesAnew (wsV RX5 162 RJx4a65c yJx4a65c_get_915e3 wsJx4a65c_get_915e3) := goodIn_app (goodIn_of _ (by decide +kernel)) ggX5_findFamiliesAnew_Jx4a65c_get_915e3
set_option maxRecDepth 20000 in
theorem ggX5_findFamiliesAnew_X5_enterFamily : GoodIn wsX5_findFamiliesAnew wsX5_enterFamily := goodIn_r _ [30, 31, 32, 1, 2, 3, 4, 5, 6, 7, 8, 9, 10, 11, 12, 13, 14, 15, 16, 17, 18, 19, 20, 21, 22, 23, 24, 25, 33, 34, 35, 36, 37, 38, 39, 40, 41, 42, 43, 44, 45, 46, 47, 48, 49, 50, 51, 29, 52, 53, 54, 55, 56, 57, 58, 59, 70, 71, 72, 73, 74, 75, 76, 60, 61, 62, 63, 64, 65, 66, 67, 68, 69] (by decide +kernel) (by decide +kernel)
set_option maxRecDepth 20000 in
theorem gX5_findFamiliesAnew_X5_enterFamily : GoodIn wsX5_findFamiliesAnew (wsV RX5 114 RX5 yX5_enterFamily wsX5_enterFamily) := goodIn_app (goodIn_of _ (by decide +kernel)) ggX5_findFamiliesAnew_X5_enterFamily
theorem dX5_findFamiliesAnew_0 : decode cX5_findFamiliesAnew 0 = .ok (.iconst 0, 1) := by decide +kernel
theorem dX5_findFamiliesAnew_1 : decode cX5_findFamiliesAnew 1 = .ok (.istore_n 1, 1) := by decide +kernel
theorem dX5_findFamiliesAnew_2 : decode cX5_findFamiliesAnew 2 = .ok (.iload_n 1, 1) := by decide +kernel
theorem dX5_findFamiliesAnew_3 : decode cX5_findFamiliesAnew 3 = .ok (.aload_n 0, 1) := by decide +kernel
theorem dX5_findFamiliesAnew_4 : decode cX5_findFamiliesAnew 4 = .ok (.getfield 16, 3) := by decide +kernel
theorem dX5_findFamiliesAnew_7 : decode cX5_findFamiliesAnew 7 = .ok (.invokevirtual 97, 3) := by decide +kernel
theorem dX5_findFamiliesAnew_10 : decode cX5_findFamiliesAnew 10 = .ok (.if_icmp .ge 24, 3) := by decide +kernel
theorem dX5_findFamiliesAnew_13 : decode cX5_findFamiliesAnew 13 = .ok (.aload_n 0, 1) := by decide +kernel
theorem dX5_findFamiliesAnew_14 : decode cX5_findFamiliesAnew 14 = .ok (.aload_n 0, 1) := by decide +kernel
theorem dX5_findFamiliesAnew_15 : decode cX5_findFamiliesAnew 15 = .ok (.getfield 16, 3) := by decide +kernel
theorem dX5_findFamiliesAnew_18 : decode cX5_findFamiliesAnew 18 = .ok (.iload_n 1, 1) := by decide +kernel
theorem dX5_findFamiliesAnew_19 : decode cX5_findFamiliesAnew 19 = .ok (.invokevirtual 162, 3) := by decide +kernel
theorem dX5_findFamiliesAnew_22 : decode cX5_findFamiliesAnew 22 = .ok (.checkcast 49, 3) := by decide +kernel
theorem dX5_findFamiliesAnew_25 : decode cX5_findFamiliesAnew 25 = .ok (.invokevirtual 114, 3) := by decide +kernel
theorem dX5_findFamiliesAnew_28 : decode cX5_findFamiliesAnew 28 = .ok (.iinc 1 1, 3) := by decide +kernel
theorem dX5_findFamiliesAnew_31 : decode cX5_findFamiliesAnew 31 = .ok (.goto (-29), 3) := by decide +kernel
theorem dX5_findFamiliesAnew_34 : decode cX5_findFamiliesAnew 34 = .ok (.return_, 1) := by decide +kernel
theorem dX5_setOf_0 : decode cX5_setOf 0 = .ok (.lconst 1, 1) := by decide +kernel
theorem dX5_setOf_1 : decode cX5_setOf 1 = .ok (.aload_n 0, 1) := by decide +kernel
theorem dX5_setOf_2 : decode cX5_setOf 2 = .ok (.getfield 118, 3) := by decide +kernel
theorem dX5_setOf_5 : decode cX5_setOf 5 = .ok (.lshl, 1) := by decide +kernel
theorem dX5_setOf_6 : decode cX5_setOf 6 = .ok (.lreturn, 1) := by decide +kernel
set_option maxRecDepth 20000 in
theorem ggX5_lowestIn_Jx4a65c_size_8abf5 : GoodIn wsX5_lowestIn wsJx4a65c_size_8abf5 := goodIn_r _ [7, 8, 38, 39, 40] (by decide +kernel) (by decide +kernel)
set_option maxRecDepth 20000 in
theorem gX5_lowestIn_Jx4a65c_size_8abf5 : GoodIn wsX5_lowestIn (wsV RX5 97 RJx4a65c yJx4a65c_size_8abf5 wsJx4a65c_size_8abf5) := goodIn_app (goodIn_of _ (by decide +kernel)) ggX5_lowestIn_Jx4a65c_size_8abf5
set_option maxRecDepth 20000 in
theorem ggX5_lowestIn_Jx4a65c_get_915e3 : GoodIn wsX5_lowestIn wsJx4a65c_get_915e3 := goodIn_r _ [12, 8, 13, 14, 15, 16, 17, 18, 19, 20, 21, 22, 23, 6, 24, 25, 38, 39, 40] (by decide +kernel) (by decide +kernel)
set_option maxRecDepth 20000 in
theorem gX5_lowestIn_Jx4a65c_get_915e3 : GoodIn wsX5_lowestIn (wsV RX5 162 RJx4a65c yJx4a65c_get_915e3 wsJx4a65c_get_915e3) := goodIn_app (goodIn_of _ (by decide +kernel)) ggX5_lowestIn_Jx4a65c_get_915e3
set_option maxRecDepth 20000 in
theorem ggX5_lowestIn_X5_setOf : GoodIn wsX5_lowestIn wsX5_setOf := goodIn_r _ [29, 30, 41, 42, 43, 44, 45, 46, 47] (by decide +kernel) (by decide +kernel)
set_option maxRecDepth 20000 in
theorem gX5_lowestIn_X5_setOf : GoodIn wsX5_lowestIn (va_wsS RX5 240 yX5_setOf wsX5_setOf) := goodIn_app (goodIn_of _ (by decide +kernel)) ggX5_lowestIn_X5_setOf
theorem dX5_lowestIn_0 : decode cX5_lowestIn 0 = .ok (.iconst 0, 1) := by decide +kernel
theorem dX5_lowestIn_1 : decode cX5_lowestIn 1 = .ok (.istore_n 3, 1) := by decide +kernel
theorem dX5_lowestIn_2 : decode cX5_lowestIn 2 = .ok (.iload_n 3, 1) := by decide +kernel
theorem dX5_lowestIn_3 : decode cX5_lowestIn 3 = .ok (.aload_n 0, 1) := by decide +kernel
theorem dX5_lowestIn_4 : decode cX5_lowestIn 4 = .ok (.getfield 16, 3) := by decide +kernel
theorem dX5_lowestIn_7 : decode cX5_lowestIn 7 = .ok (.invokevirtual 97, 3) := by decide +kernel
theorem dX5_lowestIn_10 : decode cX5_lowestIn 10 = .ok (.if_icmp .ge 32, 3) := by decide +kernel
theorem dX5_lowestIn_13 : decode cX5_lowestIn 13 = .ok (.lload_n 1, 1) := by decide +kernel
theorem dX5_lowestIn_14 : decode cX5_lowestIn 14 = .ok (.aload_n 0, 1) := by decide +kernel
theorem dX5_lowestIn_15 : decode cX5_lowestIn 15 = .ok (.getfield 16, 3) := by decide +kernel
theorem dX5_lowestIn_18 : decode cX5_lowestIn 18 = .ok (.iload_n 3, 1) := by decide +kernel
theorem dX5_lowestIn_19 : decode cX5_lowestIn 19 = .ok (.invokevirtual 162, 3) := by decide +kernel
theorem dX5_lowestIn_22 : decode cX5_lowestIn 22 = .ok (.checkcast 49, 3) := by decide +kernel
theorem dX5_lowestIn_25 : decode cX5_lowestIn 25 = .ok (.invokestatic 240, 3) := by decide +kernel
theorem dX5_lowestIn_28 : decode cX5_lowestIn 28 = .ok (.land, 1) := by decide +kernel
theorem dX5_lowestIn_29 : decode cX5_lowestIn 29 = .ok (.lconst 0, 1) := by decide +kernel
theorem dX5_lowestIn_30 : decode cX5_lowestIn 30 = .ok (.lcmp, 1) := by decide +kernel
theorem dX5_lowestIn_31 : decode cX5_lowestIn 31 = .ok (.ifCond .eq 5, 3) := by decide +kernel
theorem dX5_lowestIn_34 : decode cX5_lowestIn 34 = .ok (.iload_n 3, 1) := by decide +kernel
theorem dX5_lowestIn_35 : decode cX5_lowestIn 35 = .ok (.ireturn, 1) := by decide +kernel
theorem dX5_lowestIn_36 : decode cX5_lowestIn 36 = .ok (.iinc 3 1, 3) := by decide +kernel
theorem dX5_lowestIn_39 : decode cX5_lowestIn 39 = .ok (.goto (-37), 3) := by decide +kernel
theorem dX5_lowestIn_42 : decode cX5_lowestIn 42 = .ok (.iconst (-1), 1) := by decide +kernel
theorem dX5_lowestIn_43 : decode cX5_lowestIn 43 = .ok (.ireturn, 1) := by decide +kernel
set_option maxRecDepth 20000 in
theorem ggX5_copiesThatRead_Jx4a65c_size_8abf5 : GoodIn wsX5_copiesThatRead wsJx4a65c_size_8abf5 := goodIn_r _ [8, 9, 46, 47, 48] (by decide +kernel) (by decide +kernel)
set_option maxRecDepth 20000 in
theorem gX5_copiesThatRead_Jx4a65c_size_8abf5 : GoodIn wsX5_copiesThatRead (wsV RX5 97 RJx4a65c yJx4a65c_size_8abf5 wsJx4a65c_size_8abf5) := goodIn_app (goodIn_of _ (by decide +kernel)) ggX5_copiesThatRead_Jx4a65c_size_8abf5
set_option maxRecDepth 20000 in
theorem ggX5_copiesThatRead_Jx4a65c_get_915e3 : GoodIn wsX5_copiesThatRead wsJx4a65c_get_915e3 := goodIn_r _ [13, 9, 14, 15, 16, 17, 18, 19, 20, 21, 22, 23, 24, 7, 25, 26, 46, 47, 48] (by decide +kernel) (by decide +kernel)
set_option maxRecDepth 20000 in
theorem gX5_copiesThatRead_Jx4a65c_get_915e3 : GoodIn wsX5_copiesThatRead (wsV RX5 162 RJx4a65c yJx4a65c_get_915e3 wsJx4a65c_get_915e3) := goodIn_app (goodIn_of _ (by decide +kernel)) ggX5_copiesThatRead_Jx4a65c_get_915e3
set_option maxRecDepth 20000 in
theorem ggX5_copiesThatRead_X5_setOf : GoodIn wsX5_copiesThatRead wsX5_setOf := goodIn_r _ [30, 31, 39, 40, 41, 42, 43, 44, 45] (by decide +kernel) (by decide +kernel)
set_option maxRecDepth 20000 in
theorem gX5_copiesThatRead_X5_setOf : GoodIn wsX5_copiesThatRead (va_wsS RX5 240 yX5_setOf wsX5_setOf) := goodIn_app (goodIn_of _ (by decide +kernel)) ggX5_copiesThatRead_X5_setOf
theorem dX5_copiesThatRead_0 : decode cX5_copiesThatRead 0 = .ok (.iload_n 1, 1) := by decide +kernel
theorem dX5_copiesThatRead_1 : decode cX5_copiesThatRead 1 = .ok (.ifCond .lt 9, 3) := by decide +kernel
theorem dX5_copiesThatRead_4 : decode cX5_copiesThatRead 4 = .ok (.iload_n 1, 1) := by decide +kernel
theorem dX5_copiesThatRead_5 : decode cX5_copiesThatRead 5 = .ok (.bipush 24, 2) := by decide +kernel
theorem dX5_copiesThatRead_7 : decode cX5_copiesThatRead 7 = .ok (.if_icmp .lt 5, 3) := by decide +kernel
theorem dX5_copiesThatRead_10 : decode cX5_copiesThatRead 10 = .ok (.lconst 0, 1) := by decide +kernel
theorem dX5_copiesThatRead_11 : decode cX5_copiesThatRead 11 = .ok (.lreturn, 1) := by decide +kernel
theorem dX5_copiesThatRead_12 : decode cX5_copiesThatRead 12 = .ok (.lconst 0, 1) := by decide +kernel
theorem dX5_copiesThatRead_13 : decode cX5_copiesThatRead 13 = .ok (.lstore_n 3, 1) := by decide +kernel
theorem dX5_copiesThatRead_14 : decode cX5_copiesThatRead 14 = .ok (.iconst 0, 1) := by decide +kernel
theorem dX5_copiesThatRead_15 : decode cX5_copiesThatRead 15 = .ok (.istore 5, 2) := by decide +kernel
theorem dX5_copiesThatRead_17 : decode cX5_copiesThatRead 17 = .ok (.iload 5, 2) := by decide +kernel
theorem dX5_copiesThatRead_19 : decode cX5_copiesThatRead 19 = .ok (.aload_n 0, 1) := by decide +kernel
theorem dX5_copiesThatRead_20 : decode cX5_copiesThatRead 20 = .ok (.getfield 16, 3) := by decide +kernel
theorem dX5_copiesThatRead_23 : decode cX5_copiesThatRead 23 = .ok (.invokevirtual 97, 3) := by decide +kernel
theorem dX5_copiesThatRead_26 : decode cX5_copiesThatRead 26 = .ok (.if_icmp .ge 42, 3) := by decide +kernel
theorem dX5_copiesThatRead_29 : decode cX5_copiesThatRead 29 = .ok (.aload_n 0, 1) := by decide +kernel
theorem dX5_copiesThatRead_30 : decode cX5_copiesThatRead 30 = .ok (.getfield 16, 3) := by decide +kernel
theorem dX5_copiesThatRead_33 : decode cX5_copiesThatRead 33 = .ok (.iload 5, 2) := by decide +kernel
theorem dX5_copiesThatRead_35 : decode cX5_copiesThatRead 35 = .ok (.invokevirtual 162, 3) := by decide +kernel
theorem dX5_copiesThatRead_38 : decode cX5_copiesThatRead 38 = .ok (.checkcast 49, 3) := by decide +kernel
theorem dX5_copiesThatRead_41 : decode cX5_copiesThatRead 41 = .ok (.astore 6, 2) := by decide +kernel
theorem dX5_copiesThatRead_43 : decode cX5_copiesThatRead 43 = .ok (.aload 6, 2) := by decide +kernel
theorem dX5_copiesThatRead_45 : decode cX5_copiesThatRead 45 = .ok (.getfield 139, 3) := by decide +kernel
theorem dX5_copiesThatRead_48 : decode cX5_copiesThatRead 48 = .ok (.iload_n 1, 1) := by decide +kernel
theorem dX5_copiesThatRead_49 : decode cX5_copiesThatRead 49 = .ok (.iaload, 1) := by decide +kernel
theorem dX5_copiesThatRead_50 : decode cX5_copiesThatRead 50 = .ok (.iload_n 2, 1) := by decide +kernel
theorem dX5_copiesThatRead_51 : decode cX5_copiesThatRead 51 = .ok (.if_icmp .ne 11, 3) := by decide +kernel
theorem dX5_copiesThatRead_54 : decode cX5_copiesThatRead 54 = .ok (.lload_n 3, 1) := by decide +kernel
theorem dX5_copiesThatRead_55 : decode cX5_copiesThatRead 55 = .ok (.aload 6, 2) := by decide +kernel
theorem dX5_copiesThatRead_57 : decode cX5_copiesThatRead 57 = .ok (.invokestatic 240, 3) := by decide +kernel
theorem dX5_copiesThatRead_60 : decode cX5_copiesThatRead 60 = .ok (.lor, 1) := by decide +kernel
theorem dX5_copiesThatRead_61 : decode cX5_copiesThatRead 61 = .ok (.lstore_n 3, 1) := by decide +kernel
theorem dX5_copiesThatRead_62 : decode cX5_copiesThatRead 62 = .ok (.iinc 5 1, 3) := by decide +kernel
theorem dX5_copiesThatRead_65 : decode cX5_copiesThatRead 65 = .ok (.goto (-48), 3) := by decide +kernel
theorem dX5_copiesThatRead_68 : decode cX5_copiesThatRead 68 = .ok (.lload_n 3, 1) := by decide +kernel
theorem dX5_copiesThatRead_69 : decode cX5_copiesThatRead 69 = .ok (.lreturn, 1) := by decide +kernel
set_option maxRecDepth 20000 in
theorem ggX5_kinByErrors_X5_copiesThatRead : GoodIn wsX5_kinByErrors wsX5_copiesThatRead := goodIn_r _ [6, 7, 8, 1, 9, 10, 11, 12, 13, 14, 15, 16, 17, 18, 19, 20, 21, 22, 23, 24, 25, 26, 27, 28, 29, 30, 31, 32, 33, 5, 34, 35, 43, 44, 45, 46, 47, 48, 49, 36, 37, 38, 39, 40, 41, 42, 50, 51, 52] (by decide +kernel) (by decide +kernel)
set_option maxRecDepth 20000 in
theorem gX5_kinByErrors_X5_copiesThatRead : GoodIn wsX5_kinByErrors (wsV RX5 263 RX5 yX5_copiesThatRead wsX5_copiesThatRead) := goodIn_app (goodIn_of _ (by decide +kernel)) ggX5_kinByErrors_X5_copiesThatRead
theorem dX5_kinByErrors_0 : decode cX5_kinByErrors 0 = .ok (.lconst 0, 1) := by decide +kernel
theorem dX5_kinByErrors_1 : decode cX5_kinByErrors 1 = .ok (.lstore_n 2, 1) := by decide +kernel
theorem dX5_kinByErrors_2 : decode cX5_kinByErrors 2 = .ok (.iconst 0, 1) := by decide +kernel
theorem dX5_kinByErrors_3 : decode cX5_kinByErrors 3 = .ok (.istore 4, 2) := by decide +kernel
theorem dX5_kinByErrors_5 : decode cX5_kinByErrors 5 = .ok (.iload 4, 2) := by decide +kernel
theorem dX5_kinByErrors_7 : decode cX5_kinByErrors 7 = .ok (.bipush 24, 2) := by decide +kernel
theorem dX5_kinByErrors_9 : decode cX5_kinByErrors 9 = .ok (.if_icmp .ge 34, 3) := by decide +kernel
theorem dX5_kinByErrors_12 : decode cX5_kinByErrors 12 = .ok (.aload_n 1, 1) := by decide +kernel
theorem dX5_kinByErrors_13 : decode cX5_kinByErrors 13 = .ok (.getfield 139, 3) := by decide +kernel
theorem dX5_kinByErrors_16 : decode cX5_kinByErrors 16 = .ok (.iload 4, 2) := by decide +kernel
theorem dX5_kinByErrors_18 : decode cX5_kinByErrors 18 = .ok (.iaload, 1) := by decide +kernel
theorem dX5_kinByErrors_19 : decode cX5_kinByErrors 19 = .ok (.istore 5, 2) := by decide +kernel
theorem dX5_kinByErrors_21 : decode cX5_kinByErrors 21 = .ok (.iload 5, 2) := by decide +kernel
theorem dX5_kinByErrors_23 : decode cX5_kinByErrors 23 = .ok (.ifCond .eq 14, 3) := by decide +kernel
theorem dX5_kinByErrors_26 : decode cX5_kinByErrors 26 = .ok (.lload_n 2, 1) := by decide +kernel
theorem dX5_kinByErrors_27 : decode cX5_kinByErrors 27 = .ok (.aload_n 0, 1) := by decide +kernel
theorem dX5_kinByErrors_28 : decode cX5_kinByErrors 28 = .ok (.iload 4, 2) := by decide +kernel
theorem dX5_kinByErrors_30 : decode cX5_kinByErrors 30 = .ok (.iload 5, 2) := by decide +kernel
theorem dX5_kinByErrors_32 : decode cX5_kinByErrors 32 = .ok (.invokevirtual 263, 3) := by decide +kernel
theorem dX5_kinByErrors_35 : decode cX5_kinByErrors 35 = .ok (.lor, 1) := by decide +kernel
theorem dX5_kinByErrors_36 : decode cX5_kinByErrors 36 = .ok (.lstore_n 2, 1) := by decide +kernel
theorem dX5_kinByErrors_37 : decode cX5_kinByErrors 37 = .ok (.iinc 4 1, 3) := by decide +kernel
theorem dX5_kinByErrors_40 : decode cX5_kinByErrors 40 = .ok (.goto (-35), 3) := by decide +kernel
theorem dX5_kinByErrors_43 : decode cX5_kinByErrors 43 = .ok (.lload_n 2, 1) := by decide +kernel
theorem dX5_kinByErrors_44 : decode cX5_kinByErrors 44 = .ok (.lreturn, 1) := by decide +kernel
set_option maxRecDepth 20000 in
theorem ggX5_kinByModels_X0_modelIfTold : GoodIn wsX5_kinByModels wsX0_modelIfTold := goodIn_r _ [7, 8, 9, 45, 46, 47, 48, 49, 50, 51] (by decide +kernel) (by decide +kernel)
set_option maxRecDepth 20000 in
theorem gX5_kinByModels_X0_modelIfTold : GoodIn wsX5_kinByModels (wsV RX5 233 RX0 yX0_modelIfTold wsX0_modelIfTold) := goodIn_app (goodIn_of _ (by decide +kernel)) ggX5_kinByModels_X0_modelIfTold
set_option maxRecDepth 20000 in
theorem ggX5_kinByModels_X5_setOf : GoodIn wsX5_kinByModels wsX5_setOf := goodIn_r _ [13, 14, 45, 46, 47, 48, 49, 50, 51] (by decide +kernel) (by decide +kernel)
set_option maxRecDepth 20000 in
theorem gX5_kinByModels_X5_setOf : GoodIn wsX5_kinByModels (va_wsS RX5 240 yX5_setOf wsX5_setOf) := goodIn_app (goodIn_of _ (by decide +kernel)) ggX5_kinByModels_X5_setOf
set_option maxRecDepth 20000 in
theorem ggX5_kinByModels_Jx4a65c_size_8abf5 : GoodIn wsX5_kinByModels wsJx4a65c_size_8abf5 := goodIn_r _ [19, 20, 52, 53, 54] (by decide +kernel) (by decide +kernel)
set_option maxRecDepth 20000 in
theorem gX5_kinByModels_Jx4a65c_size_8abf5 : GoodIn wsX5_kinByModels (wsV RX5 97 RJx4a65c yJx4a65c_size_8abf5 wsJx4a65c_size_8abf5) := goodIn_app (goodIn_of _ (by decide +kernel)) ggX5_kinByModels_Jx4a65c_size_8abf5
set_option maxRecDepth 20000 in
theorem ggX5_kinByModels_Jx4a65c_get_915e3 : GoodIn wsX5_kinByModels wsJx4a65c_get_915e3 := goodIn_r _ [24, 20, 25, 26, 27, 28, 29, 30, 31, 32, 33, 34, 35, 18, 36, 37, 52, 53, 54] (by decide +kernel) (by decide +kernel)
set_option maxRecDepth 20000 in
theorem gX5_kinByModels_Jx4a65c_get_915e3 : GoodIn wsX5_kinByModels (wsV RX5 162 RJx4a65c yJx4a65c_get_915e3 wsJx4a65c_get_915e3) := goodIn_app (goodIn_of _ (by decide +kernel)) ggX5_kinByModels_Jx4a65c_get_915e3
theorem dX5_kinByModels_0 : decode cX5_kinByModels 0 = .ok (.aload_n 1, 1) := by decide +kernel
theorem dX5_kinByModels_1 : decode cX5_kinByModels 1 = .ok (.invokevirtual 233, 3) := by decide +kernel
theorem dX5_kinByModels_4 : decode cX5_kinByModels 4 = .ok (.astore_n 2, 1) := by decide +kernel
theorem dX5_kinByModels_5 : decode cX5_kinByModels 5 = .ok (.aload_n 2, 1) := by decide +kernel
theorem dX5_kinByModels_6 : decode cX5_kinByModels 6 = .ok (.ifnonnull 7, 3) := by decide +kernel
theorem dX5_kinByModels_9 : decode cX5_kinByModels 9 = .ok (.lconst 0, 1) := by decide +kernel
theorem dX5_kinByModels_10 : decode cX5_kinByModels 10 = .ok (.goto 7, 3) := by decide +kernel
theorem dX5_kinByModels_13 : decode cX5_kinByModels 13 = .ok (.aload_n 2, 1) := by decide +kernel
theorem dX5_kinByModels_14 : decode cX5_kinByModels 14 = .ok (.invokestatic 240, 3) := by decide +kernel
theorem dX5_kinByModels_17 : decode cX5_kinByModels 17 = .ok (.lstore_n 3, 1) := by decide +kernel
theorem dX5_kinByModels_18 : decode cX5_kinByModels 18 = .ok (.iconst 0, 1) := by decide +kernel
theorem dX5_kinByModels_19 : decode cX5_kinByModels 19 = .ok (.istore 5, 2) := by decide +kernel
theorem dX5_kinByModels_21 : decode cX5_kinByModels 21 = .ok (.iload 5, 2) := by decide +kernel
theorem dX5_kinByModels_23 : decode cX5_kinByModels 23 = .ok (.aload_n 0, 1) := by decide +kernel
theorem dX5_kinByModels_24 : decode cX5_kinByModels 24 = .ok (.getfield 16, 3) := by decide +kernel
theorem dX5_kinByModels_27 : decode cX5_kinByModels 27 = .ok (.invokevirtual 97, 3) := by decide +kernel
theorem dX5_kinByModels_30 : decode cX5_kinByModels 30 = .ok (.if_icmp .ge 40, 3) := by decide +kernel
theorem dX5_kinByModels_33 : decode cX5_kinByModels 33 = .ok (.aload_n 0, 1) := by decide +kernel
theorem dX5_kinByModels_34 : decode cX5_kinByModels 34 = .ok (.getfield 16, 3) := by decide +kernel
theorem dX5_kinByModels_37 : decode cX5_kinByModels 37 = .ok (.iload 5, 2) := by decide +kernel
theorem dX5_kinByModels_39 : decode cX5_kinByModels 39 = .ok (.invokevirtual 162, 3) := by decide +kernel
theorem dX5_kinByModels_42 : decode cX5_kinByModels 42 = .ok (.checkcast 49, 3) := by decide +kernel
theorem dX5_kinByModels_45 : decode cX5_kinByModels 45 = .ok (.astore 6, 2) := by decide +kernel
theorem dX5_kinByModels_47 : decode cX5_kinByModels 47 = .ok (.aload 6, 2) := by decide +kernel
theorem dX5_kinByModels_49 : decode cX5_kinByModels 49 = .ok (.invokevirtual 233, 3) := by decide +kernel
theorem dX5_kinByModels_52 : decode cX5_kinByModels 52 = .ok (.aload_n 1, 1) := by decide +kernel
theorem dX5_kinByModels_53 : decode cX5_kinByModels 53 = .ok (.if_acmp .ne 11, 3) := by decide +kernel
theorem dX5_kinByModels_56 : decode cX5_kinByModels 56 = .ok (.lload_n 3, 1) := by decide +kernel
theorem dX5_kinByModels_57 : decode cX5_kinByModels 57 = .ok (.aload 6, 2) := by decide +kernel
theorem dX5_kinByModels_59 : decode cX5_kinByModels 59 = .ok (.invokestatic 240, 3) := by decide +kernel
theorem dX5_kinByModels_62 : decode cX5_kinByModels 62 = .ok (.lor, 1) := by decide +kernel
theorem dX5_kinByModels_63 : decode cX5_kinByModels 63 = .ok (.lstore_n 3, 1) := by decide +kernel
theorem dX5_kinByModels_64 : decode cX5_kinByModels 64 = .ok (.iinc 5 1, 3) := by decide +kernel
theorem dX5_kinByModels_67 : decode cX5_kinByModels 67 = .ok (.goto (-46), 3) := by decide +kernel
theorem dX5_kinByModels_70 : decode cX5_kinByModels 70 = .ok (.lload_n 3, 1) := by decide +kernel
theorem dX5_kinByModels_71 : decode cX5_kinByModels 71 = .ok (.lreturn, 1) := by decide +kernel
set_option maxRecDepth 20000 in
theorem ggX5_guessFor_X0_modelIfTold : GoodIn wsX5_guessFor wsX0_modelIfTold := goodIn_r _ [8, 9, 10, 48, 49, 50, 51, 52, 53, 54] (by decide +kernel) (by decide +kernel)
set_option maxRecDepth 20000 in
theorem gX5_guessFor_X0_modelIfTold : GoodIn wsX5_guessFor (wsV RX5 233 RX0 yX0_modelIfTold wsX0_modelIfTold) := goodIn_app (goodIn_of _ (by decide +kernel)) ggX5_guessFor_X0_modelIfTold
set_option maxRecDepth 20000 in
theorem ggX5_guessFor_Jx4a65c_size_8abf5 : GoodIn wsX5_guessFor wsJx4a65c_size_8abf5 := goodIn_r _ [15, 16, 62, 63, 64] (by decide +kernel) (by decide +kernel)
set_option maxRecDepth 20000 in
theorem gX5_guessFor_Jx4a65c_size_8abf5 : GoodIn wsX5_guessFor (wsV RX5 97 RJx4a65c yJx4a65c_size_8abf5 wsJx4a65c_size_8abf5) := goodIn_app (goodIn_of _ (by decide +kernel)) ggX5_guessFor_Jx4a65c_size_8abf5
set_option maxRecDepth 20000 in
theorem ggX5_guessFor_Jx4a65c_get_915e3 : GoodIn wsX5_guessFor wsJx4a65c_get_915e3 := goodIn_r _ [20, 16, 21, 22, 23, 24, 25, 26, 27, 28, 29, 30, 31, 14, 32, 33, 62, 63, 64] (by decide +kernel) (by decide +kernel)
set_option maxRecDepth 20000 in
theorem gX5_guessFor_Jx4a65c_get_915e3 : GoodIn wsX5_guessFor (wsV RX5 162 RJx4a65c yJx4a65c_get_915e3 wsJx4a65c_get_915e3) := goodIn_app (goodIn_of _ (by decide +kernel)) ggX5_guessFor_Jx4a65c_get_915e3
set_option maxRecDepth 20000 in
theorem ggX5_guessFor_X5_worthAsModel : GoodIn wsX5_guessFor wsX5_worthAsModel := goodIn_r _ [37, 38, 39, 40, 7, 41, 42, 43, 44, 45, 46, 47, 48, 49, 50, 51, 52, 53, 54] (by decide +kernel) (by decide +kernel)
set_option maxRecDepth 20000 in
theorem gX5_guessFor_X5_worthAsModel : GoodIn wsX5_guessFor (va_wsS RX5 313 yX5_worthAsModel wsX5_worthAsModel) := goodIn_app (goodIn_of _ (by decide +kernel)) ggX5_guessFor_X5_worthAsModel
theorem dX5_guessFor_0 : decode cX5_guessFor 0 = .ok (.aload_n 1, 1) := by decide +kernel
theorem dX5_guessFor_1 : decode cX5_guessFor 1 = .ok (.invokevirtual 233, 3) := by decide +kernel
theorem dX5_guessFor_4 : decode cX5_guessFor 4 = .ok (.astore_n 2, 1) := by decide +kernel
theorem dX5_guessFor_5 : decode cX5_guessFor 5 = .ok (.aload_n 2, 1) := by decide +kernel
theorem dX5_guessFor_6 : decode cX5_guessFor 6 = .ok (.ifnull 5, 3) := by decide +kernel
theorem dX5_guessFor_9 : decode cX5_guessFor 9 = .ok (.aload_n 2, 1) := by decide +kernel
theorem dX5_guessFor_10 : decode cX5_guessFor 10 = .ok (.areturn, 1) := by decide +kernel
theorem dX5_guessFor_11 : decode cX5_guessFor 11 = .ok (.aconst_null, 1) := by decide +kernel
theorem dX5_guessFor_12 : decode cX5_guessFor 12 = .ok (.astore_n 3, 1) := by decide +kernel
theorem dX5_guessFor_13 : decode cX5_guessFor 13 = .ok (.iconst 0, 1) := by decide +kernel
theorem dX5_guessFor_14 : decode cX5_guessFor 14 = .ok (.istore 4, 2) := by decide +kernel
theorem dX5_guessFor_16 : decode cX5_guessFor 16 = .ok (.iconst 0, 1) := by decide +kernel
theorem dX5_guessFor_17 : decode cX5_guessFor 17 = .ok (.istore 5, 2) := by decide +kernel
theorem dX5_guessFor_19 : decode cX5_guessFor 19 = .ok (.iload 5, 2) := by decide +kernel
theorem dX5_guessFor_21 : decode cX5_guessFor 21 = .ok (.aload_n 1, 1) := by decide +kernel
theorem dX5_guessFor_22 : decode cX5_guessFor 22 = .ok (.getfield 118, 3) := by decide +kernel
theorem dX5_guessFor_25 : decode cX5_guessFor 25 = .ok (.if_icmp .ge 61, 3) := by decide +kernel
theorem dX5_guessFor_28 : decode cX5_guessFor 28 = .ok (.iload 5, 2) := by decide +kernel
theorem dX5_guessFor_30 : decode cX5_guessFor 30 = .ok (.aload_n 0, 1) := by decide +kernel
theorem dX5_guessFor_31 : decode cX5_guessFor 31 = .ok (.getfield 16, 3) := by decide +kernel
theorem dX5_guessFor_34 : decode cX5_guessFor 34 = .ok (.invokevirtual 97, 3) := by decide +kernel
theorem dX5_guessFor_37 : decode cX5_guessFor 37 = .ok (.if_icmp .ge 49, 3) := by decide +kernel
theorem dX5_guessFor_40 : decode cX5_guessFor 40 = .ok (.aload_n 0, 1) := by decide +kernel
theorem dX5_guessFor_41 : decode cX5_guessFor 41 = .ok (.getfield 16, 3) := by decide +kernel
theorem dX5_guessFor_44 : decode cX5_guessFor 44 = .ok (.iload 5, 2) := by decide +kernel
theorem dX5_guessFor_46 : decode cX5_guessFor 46 = .ok (.invokevirtual 162, 3) := by decide +kernel
theorem dX5_guessFor_49 : decode cX5_guessFor 49 = .ok (.checkcast 49, 3) := by decide +kernel
theorem dX5_guessFor_52 : decode cX5_guessFor 52 = .ok (.astore 6, 2) := by decide +kernel
theorem dX5_guessFor_54 : decode cX5_guessFor 54 = .ok (.aload 6, 2) := by decide +kernel
theorem dX5_guessFor_56 : decode cX5_guessFor 56 = .ok (.aload_n 1, 1) := by decide +kernel
theorem dX5_guessFor_57 : decode cX5_guessFor 57 = .ok (.invokestatic 313, 3) := by decide +kernel
theorem dX5_guessFor_60 : decode cX5_guessFor 60 = .ok (.istore 7, 2) := by decide +kernel
theorem dX5_guessFor_62 : decode cX5_guessFor 62 = .ok (.aload_n 3, 1) := by decide +kernel
theorem dX5_guessFor_63 : decode cX5_guessFor 63 = .ok (.ifnull 10, 3) := by decide +kernel
theorem dX5_guessFor_66 : decode cX5_guessFor 66 = .ok (.iload 7, 2) := by decide +kernel
theorem dX5_guessFor_68 : decode cX5_guessFor 68 = .ok (.iload 4, 2) := by decide +kernel
theorem dX5_guessFor_70 : decode cX5_guessFor 70 = .ok (.if_icmp .le 10, 3) := by decide +kernel
theorem dX5_guessFor_73 : decode cX5_guessFor 73 = .ok (.aload 6, 2) := by decide +kernel
theorem dX5_guessFor_75 : decode cX5_guessFor 75 = .ok (.astore_n 3, 1) := by decide +kernel
theorem dX5_guessFor_76 : decode cX5_guessFor 76 = .ok (.iload 7, 2) := by decide +kernel
theorem dX5_guessFor_78 : decode cX5_guessFor 78 = .ok (.istore 4, 2) := by decide +kernel
theorem dX5_guessFor_80 : decode cX5_guessFor 80 = .ok (.iinc 5 1, 3) := by decide +kernel
theorem dX5_guessFor_83 : decode cX5_guessFor 83 = .ok (.goto (-64), 3) := by decide +kernel
theorem dX5_guessFor_86 : decode cX5_guessFor 86 = .ok (.aload_n 3, 1) := by decide +kernel
theorem dX5_guessFor_87 : decode cX5_guessFor 87 = .ok (.areturn, 1) := by decide +kernel
set_option maxRecDepth 20000 in
theorem ggX5_worthAsModel_X0_countSharedWith : GoodIn wsX5_worthAsModel wsX0_countSharedWith := goodIn_r _ [5, 6, 12, 13, 14, 15, 16, 17, 18] (by decide +kernel) (by decide +kernel)
set_option maxRecDepth 20000 in
theorem gX5_worthAsModel_X0_countSharedWith : GoodIn wsX5_worthAsModel (wsV RX5 229 RX0 yX0_countSharedWith wsX0_countSharedWith) := goodIn_app (goodIn_of _ (by decide +kernel)) ggX5_worthAsModel_X0_countSharedWith
set_option maxRecDepth 20000 in
theorem ggX5_worthAsModel_X0_countErrors : GoodIn wsX5_worthAsModel wsX0_countErrors := goodIn_r _ [10, 11, 2, 3, 4, 5, 6, 12, 13, 14, 15, 16, 17, 18] (by decide +kernel) (by decide +kernel)
set_option maxRecDepth 20000 in
theorem gX5_worthAsModel_X0_countErrors : GoodIn wsX5_worthAsModel (wsV RX5 226 RX0 yX0_countErrors wsX0_countErrors) := goodIn_app (goodIn_of _ (by decide +kernel)) ggX5_worthAsModel_X0_countErrors
theorem dX5_worthAsModel_0 : decode cX5_worthAsModel 0 = .ok (.aload_n 1, 1) := by decide +kernel
theorem dX5_worthAsModel_1 : decode cX5_worthAsModel 1 = .ok (.aload_n 0, 1) := by decide +kernel
theorem dX5_worthAsModel_2 : decode cX5_worthAsModel 2 = .ok (.invokevirtual 229, 3) := by decide +kernel
theorem dX5_worthAsModel_5 : decode cX5_worthAsModel 5 = .ok (.istore_n 2, 1) := by decide +kernel
theorem dX5_worthAsModel_6 : decode cX5_worthAsModel 6 = .ok (.aload_n 0, 1) := by decide +kernel
theorem dX5_worthAsModel_7 : decode cX5_worthAsModel 7 = .ok (.invokevirtual 226, 3) := by decide +kernel
theorem dX5_worthAsModel_10 : decode cX5_worthAsModel 10 = .ok (.iload_n 2, 1) := by decide +kernel
theorem dX5_worthAsModel_11 : decode cX5_worthAsModel 11 = .ok (.isub, 1) := by decide +kernel
theorem dX5_worthAsModel_12 : decode cX5_worthAsModel 12 = .ok (.istore_n 3, 1) := by decide +kernel
theorem dX5_worthAsModel_13 : decode cX5_worthAsModel 13 = .ok (.iconst 2, 1) := by decide +kernel
theorem dX5_worthAsModel_14 : decode cX5_worthAsModel 14 = .ok (.iload_n 2, 1) := by decide +kernel
theorem dX5_worthAsModel_15 : decode cX5_worthAsModel 15 = .ok (.imul, 1) := by decide +kernel
theorem dX5_worthAsModel_16 : decode cX5_worthAsModel 16 = .ok (.iload_n 3, 1) := by decide +kernel
theorem dX5_worthAsModel_17 : decode cX5_worthAsModel 17 = .ok (.isub, 1) := by decide +kernel
theorem dX5_worthAsModel_18 : decode cX5_worthAsModel 18 = .ok (.ireturn, 1) := by decide +kernel
theorem dX6_init_0 : decode cX6_init 0 = .ok (.aload_n 0, 1) := by decide +kernel
theorem dX6_init_1 : decode cX6_init 1 = .ok (.invokespecial 1, 3) := by decide +kernel
theorem dX6_init_4 : decode cX6_init 4 = .ok (.aload_n 0, 1) := by decide +kernel
theorem dX6_init_5 : decode cX6_init 5 = .ok (.sipush 960, 3) := by decide +kernel
theorem dX6_init_8 : decode cX6_init 8 = .ok (.newarray .int, 2) := by decide +kernel
theorem dX6_init_10 : decode cX6_init 10 = .ok (.putfield 7, 3) := by decide +kernel
theorem dX6_init_13 : decode cX6_init 13 = .ok (.aload_n 0, 1) := by decide +kernel
theorem dX6_init_14 : decode cX6_init 14 = .ok (.bipush 40, 2) := by decide +kernel
theorem dX6_init_16 : decode cX6_init 16 = .ok (.newarray .int, 2) := by decide +kernel
theorem dX6_init_18 : decode cX6_init 18 = .ok (.putfield 13, 3) := by decide +kernel
theorem dX6_init_21 : decode cX6_init 21 = .ok (.aload_n 0, 1) := by decide +kernel
theorem dX6_init_22 : decode cX6_init 22 = .ok (.bipush 40, 2) := by decide +kernel
theorem dX6_init_24 : decode cX6_init 24 = .ok (.newarray .boolean, 2) := by decide +kernel
theorem dX6_init_26 : decode cX6_init 26 = .ok (.putfield 16, 3) := by decide +kernel
theorem dX6_init_29 : decode cX6_init 29 = .ok (.aload_n 0, 1) := by decide +kernel
theorem dX6_init_30 : decode cX6_init 30 = .ok (.bipush 40, 2) := by decide +kernel
theorem dX6_init_32 : decode cX6_init 32 = .ok (.newarray .int, 2) := by decide +kernel
theorem dX6_init_34 : decode cX6_init 34 = .ok (.putfield 20, 3) := by decide +kernel
theorem dX6_init_37 : decode cX6_init 37 = .ok (.aload_n 0, 1) := by decide +kernel
theorem dX6_init_38 : decode cX6_init 38 = .ok (.bipush 40, 2) := by decide +kernel
theorem dX6_init_40 : decode cX6_init 40 = .ok (.newarray .int, 2) := by decide +kernel
theorem dX6_init_42 : decode cX6_init 42 = .ok (.putfield 23, 3) := by decide +kernel
theorem dX6_init_45 : decode cX6_init 45 = .ok (.aload_n 0, 1) := by decide +kernel
theorem dX6_init_46 : decode cX6_init 46 = .ok (.iconst 1, 1) := by decide +kernel
theorem dX6_init_47 : decode cX6_init 47 = .ok (.putfield 26, 3) := by decide +kernel
theorem dX6_init_50 : decode cX6_init 50 = .ok (.aload_n 0, 1) := by decide +kernel
theorem dX6_init_51 : decode cX6_init 51 = .ok (.bipush 24, 2) := by decide +kernel
theorem dX6_init_53 : decode cX6_init 53 = .ok (.newarray .int, 2) := by decide +kernel
theorem dX6_init_55 : decode cX6_init 55 = .ok (.putfield 30, 3) := by decide +kernel
theorem dX6_init_58 : decode cX6_init 58 = .ok (.aload_n 0, 1) := by decide +kernel
theorem dX6_init_59 : decode cX6_init 59 = .ok (.bipush 6, 2) := by decide +kernel
theorem dX6_init_61 : decode cX6_init 61 = .ok (.newarray .int, 2) := by decide +kernel
theorem dX6_init_63 : decode cX6_init 63 = .ok (.putfield 33, 3) := by decide +kernel
theorem dX6_init_66 : decode cX6_init 66 = .ok (.aload_n 0, 1) := by decide +kernel
theorem dX6_init_67 : decode cX6_init 67 = .ok (.bipush 60, 2) := by decide +kernel
theorem dX6_init_69 : decode cX6_init 69 = .ok (.newarray .int, 2) := by decide +kernel
theorem dX6_init_71 : decode cX6_init 71 = .ok (.putfield 36, 3) := by decide +kernel
theorem dX6_init_74 : decode cX6_init 74 = .ok (.aload_n 0, 1) := by decide +kernel
theorem dX6_init_75 : decode cX6_init 75 = .ok (.bipush 60, 2) := by decide +kernel
theorem dX6_init_77 : decode cX6_init 77 = .ok (.newarray .int, 2) := by decide +kernel
theorem dX6_init_79 : decode cX6_init 79 = .ok (.putfield 39, 3) := by decide +kernel
theorem dX6_init_82 : decode cX6_init 82 = .ok (.aload_n 0, 1) := by decide +kernel
theorem dX6_init_83 : decode cX6_init 83 = .ok (.bipush 60, 2) := by decide +kernel
theorem dX6_init_85 : decode cX6_init 85 = .ok (.newarray .int, 2) := by decide +kernel
theorem dX6_init_87 : decode cX6_init 87 = .ok (.putfield 42, 3) := by decide +kernel
theorem dX6_init_90 : decode cX6_init 90 = .ok (.aload_n 0, 1) := by decide +kernel
theorem dX6_init_91 : decode cX6_init 91 = .ok (.sipush 300, 3) := by decide +kernel
theorem dX6_init_94 : decode cX6_init 94 = .ok (.newarray .boolean, 2) := by decide +kernel
theorem dX6_init_96 : decode cX6_init 96 = .ok (.putfield 45, 3) := by decide +kernel
theorem dX6_init_99 : decode cX6_init 99 = .ok (.aload_n 0, 1) := by decide +kernel
theorem dX6_init_100 : decode cX6_init 100 = .ok (.bipush 40, 2) := by decide +kernel
theorem dX6_init_102 : decode cX6_init 102 = .ok (.newarray .int, 2) := by decide +kernel
theorem dX6_init_104 : decode cX6_init 104 = .ok (.putfield 48, 3) := by decide +kernel
theorem dX6_init_107 : decode cX6_init 107 = .ok (.aload_n 0, 1) := by decide +kernel
theorem dX6_init_108 : decode cX6_init 108 = .ok (.bipush 40, 2) := by decide +kernel
theorem dX6_init_110 : decode cX6_init 110 = .ok (.newarray .int, 2) := by decide +kernel
theorem dX6_init_112 : decode cX6_init 112 = .ok (.putfield 51, 3) := by decide +kernel
theorem dX6_init_115 : decode cX6_init 115 = .ok (.aload_n 0, 1) := by decide +kernel
theorem dX6_init_116 : decode cX6_init 116 = .ok (.bipush 40, 2) := by decide +kernel
theorem dX6_init_118 : decode cX6_init 118 = .ok (.newarray .int, 2) := by decide +kernel
theorem dX6_init_120 : decode cX6_init 120 = .ok (.putfield 54, 3) := by decide +kernel
theorem dX6_init_123 : decode cX6_init 123 = .ok (.aload_n 0, 1) := by decide +kernel
theorem dX6_init_124 : decode cX6_init 124 = .ok (.bipush 40, 2) := by decide +kernel
theorem dX6_init_126 : decode cX6_init 126 = .ok (.newarray .int, 2) := by decide +kernel
theorem dX6_init_128 : decode cX6_init 128 = .ok (.putfield 57, 3) := by decide +kernel
theorem dX6_init_131 : decode cX6_init 131 = .ok (.aload_n 0, 1) := by decide +kernel
theorem dX6_init_132 : decode cX6_init 132 = .ok (.bipush 40, 2) := by decide +kernel
theorem dX6_init_134 : decode cX6_init 134 = .ok (.newarray .int, 2) := by decide +kernel
theorem dX6_init_136 : decode cX6_init 136 = .ok (.putfield 60, 3) := by decide +kernel
theorem dX6_init_139 : decode cX6_init 139 = .ok (.aload_n 0, 1) := by decide +kernel
theorem dX6_init_140 : decode cX6_init 140 = .ok (.bipush 40, 2) := by decide +kernel
theorem dX6_init_142 : decode cX6_init 142 = .ok (.newarray .boolean, 2) := by decide +kernel
theorem dX6_init_144 : decode cX6_init 144 = .ok (.putfield 63, 3) := by decide +kernel
theorem dX6_init_147 : decode cX6_init 147 = .ok (.aload_n 0, 1) := by decide +kernel
theorem dX6_init_148 : decode cX6_init 148 = .ok (.iconst 5, 1) := by decide +kernel
theorem dX6_init_149 : decode cX6_init 149 = .ok (.newarray .int, 2) := by decide +kernel
theorem dX6_init_151 : decode cX6_init 151 = .ok (.putfield 66, 3) := by decide +kernel
theorem dX6_init_154 : decode cX6_init 154 = .ok (.aload_n 0, 1) := by decide +kernel
theorem dX6_init_155 : decode cX6_init 155 = .ok (.iconst 5, 1) := by decide +kernel
theorem dX6_init_156 : decode cX6_init 156 = .ok (.newarray .int, 2) := by decide +kernel
theorem dX6_init_158 : decode cX6_init 158 = .ok (.putfield 69, 3) := by decide +kernel
theorem dX6_init_161 : decode cX6_init 161 = .ok (.aload_n 0, 1) := by decide +kernel
theorem dX6_init_162 : decode cX6_init 162 = .ok (.bipush 40, 2) := by decide +kernel
theorem dX6_init_164 : decode cX6_init 164 = .ok (.newarray .int, 2) := by decide +kernel
theorem dX6_init_166 : decode cX6_init 166 = .ok (.putfield 72, 3) := by decide +kernel
theorem dX6_init_169 : decode cX6_init 169 = .ok (.aload_n 0, 1) := by decide +kernel
theorem dX6_init_170 : decode cX6_init 170 = .ok (.getfield 13, 3) := by decide +kernel
theorem dX6_init_173 : decode cX6_init 173 = .ok (.iconst 0, 1) := by decide +kernel
theorem dX6_init_174 : decode cX6_init 174 = .ok (.iconst (-1), 1) := by decide +kernel
theorem dX6_init_175 : decode cX6_init 175 = .ok (.iastore, 1) := by decide +kernel
theorem dX6_init_176 : decode cX6_init 176 = .ok (.iconst 0, 1) := by decide +kernel
theorem dX6_init_177 : decode cX6_init 177 = .ok (.istore_n 1, 1) := by decide +kernel
theorem dX6_init_178 : decode cX6_init 178 = .ok (.iload_n 1, 1) := by decide +kernel
theorem dX6_init_179 : decode cX6_init 179 = .ok (.bipush 24, 2) := by decide +kernel
theorem dX6_init_181 : decode cX6_init 181 = .ok (.if_icmp .ge 16, 3) := by decide +kernel
theorem dX6_init_184 : decode cX6_init 184 = .ok (.aload_n 0, 1) := by decide +kernel
theorem dX6_init_185 : decode cX6_init 185 = .ok (.getfield 30, 3) := by decide +kernel
theorem dX6_init_188 : decode cX6_init 188 = .ok (.iload_n 1, 1) := by decide +kernel
theorem dX6_init_189 : decode cX6_init 189 = .ok (.iconst (-1), 1) := by decide +kernel
theorem dX6_init_190 : decode cX6_init 190 = .ok (.iastore, 1) := by decide +kernel
theorem dX6_init_191 : decode cX6_init 191 = .ok (.iinc 1 1, 3) := by decide +kernel
theorem dX6_init_194 : decode cX6_init 194 = .ok (.goto (-16), 3) := by decide +kernel
theorem dX6_init_197 : decode cX6_init 197 = .ok (.iconst 0, 1) := by decide +kernel
theorem dX6_init_198 : decode cX6_init 198 = .ok (.istore_n 1, 1) := by decide +kernel
theorem dX6_init_199 : decode cX6_init 199 = .ok (.iload_n 1, 1) := by decide +kernel
theorem dX6_init_200 : decode cX6_init 200 = .ok (.iconst 5, 1) := by decide +kernel
theorem dX6_init_201 : decode cX6_init 201 = .ok (.if_icmp .ge 17, 3) := by decide +kernel
theorem dX6_init_204 : decode cX6_init 204 = .ok (.aload_n 0, 1) := by decide +kernel
theorem dX6_init_205 : decode cX6_init 205 = .ok (.getfield 66, 3) := by decide +kernel
theorem dX6_init_208 : decode cX6_init 208 = .ok (.iload_n 1, 1) := by decide +kernel
theorem dX6_init_209 : decode cX6_init 209 = .ok (.bipush 100, 2) := by decide +kernel
theorem dX6_init_211 : decode cX6_init 211 = .ok (.iastore, 1) := by decide +kernel
theorem dX6_init_212 : decode cX6_init 212 = .ok (.iinc 1 1, 3) := by decide +kernel
theorem dX6_init_215 : decode cX6_init 215 = .ok (.goto (-16), 3) := by decide +kernel
theorem dX6_init_218 : decode cX6_init 218 = .ok (.return_, 1) := by decide +kernel
theorem dX6_thrown_0 : decode cX6_thrown 0 = .ok (.aload_n 0, 1) := by decide +kernel
theorem dX6_thrown_1 : decode cX6_thrown 1 = .ok (.getfield 75, 3) := by decide +kernel
theorem dX6_thrown_4 : decode cX6_thrown 4 = .ok (.ireturn, 1) := by decide +kernel
theorem dX6_in_0 : decode cX6_in 0 = .ok (.iload_n 0, 1) := by decide +kernel
theorem dX6_in_1 : decode cX6_in 1 = .ok (.iload_n 1, 1) := by decide +kernel
theorem dX6_in_2 : decode cX6_in 2 = .ok (.if_icmp .lt 12, 3) := by decide +kernel
theorem dX6_in_5 : decode cX6_in 5 = .ok (.iload_n 0, 1) := by decide +kernel
theorem dX6_in_6 : decode cX6_in 6 = .ok (.iload_n 2, 1) := by decide +kernel
theorem dX6_in_7 : decode cX6_in 7 = .ok (.if_icmp .gt 7, 3) := by decide +kernel
theorem dX6_in_10 : decode cX6_in 10 = .ok (.iconst 1, 1) := by decide +kernel
theorem dX6_in_11 : decode cX6_in 11 = .ok (.goto 4, 3) := by decide +kernel
theorem dX6_in_14 : decode cX6_in 14 = .ok (.iconst 0, 1) := by decide +kernel
theorem dX6_in_15 : decode cX6_in 15 = .ok (.ireturn, 1) := by decide +kernel
theorem dX6_goes_0 : decode cX6_goes 0 = .ok (.aload_n 0, 1) := by decide +kernel
theorem dX6_goes_1 : decode cX6_goes 1 = .ok (.iload_n 1, 1) := by decide +kernel
theorem dX6_goes_2 : decode cX6_goes 2 = .ok (.ifCond .ne 7, 3) := by decide +kernel
theorem dX6_goes_5 : decode cX6_goes 5 = .ok (.iconst 1, 1) := by decide +kernel
theorem dX6_goes_6 : decode cX6_goes 6 = .ok (.goto 20, 3) := by decide +kernel
theorem dX6_goes_9 : decode cX6_goes 9 = .ok (.iload_n 2, 1) := by decide +kernel
theorem dX6_goes_10 : decode cX6_goes 10 = .ok (.ifCond .ne 7, 3) := by decide +kernel
theorem dX6_goes_13 : decode cX6_goes 13 = .ok (.iconst 2, 1) := by decide +kernel
theorem dX6_goes_14 : decode cX6_goes 14 = .ok (.goto 12, 3) := by decide +kernel
theorem dX6_goes_17 : decode cX6_goes 17 = .ok (.iload_n 3, 1) := by decide +kernel
theorem dX6_goes_18 : decode cX6_goes 18 = .ok (.ifCond .eq 7, 3) := by decide +kernel
theorem dX6_goes_21 : decode cX6_goes 21 = .ok (.iconst 0, 1) := by decide +kernel
theorem dX6_goes_22 : decode cX6_goes 22 = .ok (.goto 4, 3) := by decide +kernel
theorem dX6_goes_25 : decode cX6_goes 25 = .ok (.iconst 3, 1) := by decide +kernel
theorem dX6_goes_26 : decode cX6_goes 26 = .ok (.putfield 75, 3) := by decide +kernel
theorem dX6_goes_29 : decode cX6_goes 29 = .ok (.aload_n 0, 1) := by decide +kernel
theorem dX6_goes_30 : decode cX6_goes 30 = .ok (.getfield 75, 3) := by decide +kernel
theorem dX6_goes_33 : decode cX6_goes 33 = .ok (.ifCond .ne 7, 3) := by decide +kernel
theorem dX6_goes_36 : decode cX6_goes 36 = .ok (.iconst 1, 1) := by decide +kernel
theorem dX6_goes_37 : decode cX6_goes 37 = .ok (.goto 4, 3) := by decide +kernel
theorem dX6_goes_40 : decode cX6_goes 40 = .ok (.iconst 0, 1) := by decide +kernel
theorem dX6_goes_41 : decode cX6_goes 41 = .ok (.ireturn, 1) := by decide +kernel
set_option maxRecDepth 20000 in
theorem ggX6_isPlace_X6_in : GoodIn wsX6_isPlace wsX6_in := goodIn_r _ [4] (by decide +kernel) (by decide +kernel)
set_option maxRecDepth 20000 in
theorem gX6_isPlace_X6_in : GoodIn wsX6_isPlace (va_wsS RX6 78 yX6_in wsX6_in) := goodIn_app (goodIn_of _ (by decide +kernel)) ggX6_isPlace_X6_in
theorem dX6_isPlace_0 : decode cX6_isPlace 0 = .ok (.iload_n 0, 1) := by decide +kernel
theorem dX6_isPlace_1 : decode cX6_isPlace 1 = .ok (.iconst 0, 1) := by decide +kernel
theorem dX6_isPlace_2 : decode cX6_isPlace 2 = .ok (.bipush 23, 2) := by decide +kernel
theorem dX6_isPlace_4 : decode cX6_isPlace 4 = .ok (.invokestatic 78, 3) := by decide +kernel
theorem dX6_isPlace_7 : decode cX6_isPlace 7 = .ok (.ireturn, 1) := by decide +kernel
set_option maxRecDepth 20000 in
theorem ggX6_isHouse_X6_in : GoodIn wsX6_isHouse wsX6_in := goodIn_r _ [4] (by decide +kernel) (by decide +kernel)
set_option maxRecDepth 20000 in
theorem gX6_isHouse_X6_in : GoodIn wsX6_isHouse (va_wsS RX6 78 yX6_in wsX6_in) := goodIn_app (goodIn_of _ (by decide +kernel)) ggX6_isHouse_X6_in
theorem dX6_isHouse_0 : decode cX6_isHouse 0 = .ok (.iload_n 0, 1) := by decide +kernel
theorem dX6_isHouse_1 : decode cX6_isHouse 1 = .ok (.iconst 0, 1) := by decide +kernel
theorem dX6_isHouse_2 : decode cX6_isHouse 2 = .ok (.iconst 4, 1) := by decide +kernel
theorem dX6_isHouse_3 : decode cX6_isHouse 3 = .ok (.invokestatic 78, 3) := by decide +kernel
theorem dX6_isHouse_6 : decode cX6_isHouse 6 = .ok (.ireturn, 1) := by decide +kernel
set_option maxRecDepth 20000 in
theorem ggX6_isScribe_X6_in : GoodIn wsX6_isScribe wsX6_in := goodIn_r _ [4] (by decide +kernel) (by decide +kernel)
set_option maxRecDepth 20000 in
theorem gX6_isScribe_X6_in : GoodIn wsX6_isScribe (va_wsS RX6 78 yX6_in wsX6_in) := goodIn_app (goodIn_of _ (by decide +kernel)) ggX6_isScribe_X6_in
theorem dX6_isScribe_0 : decode cX6_isScribe 0 = .ok (.iload_n 0, 1) := by decide +kernel
theorem dX6_isScribe_1 : decode cX6_isScribe 1 = .ok (.iconst 0, 1) := by decide +kernel
theorem dX6_isScribe_2 : decode cX6_isScribe 2 = .ok (.iconst 5, 1) := by decide +kernel
theorem dX6_isScribe_3 : decode cX6_isScribe 3 = .ok (.invokestatic 78, 3) := by decide +kernel
theorem dX6_isScribe_6 : decode cX6_isScribe 6 = .ok (.ireturn, 1) := by decide +kernel
set_option maxRecDepth 20000 in
theorem ggX6_isCopy_X6_in : GoodIn wsX6_isCopy wsX6_in := goodIn_r _ [5] (by decide +kernel) (by decide +kernel)
set_option maxRecDepth 20000 in
theorem gX6_isCopy_X6_in : GoodIn wsX6_isCopy (va_wsS RX6 78 yX6_in wsX6_in) := goodIn_app (goodIn_of _ (by decide +kernel)) ggX6_isCopy_X6_in
theorem dX6_isCopy_0 : decode cX6_isCopy 0 = .ok (.iload_n 1, 1) := by decide +kernel
theorem dX6_isCopy_1 : decode cX6_isCopy 1 = .ok (.iconst 0, 1) := by decide +kernel
theorem dX6_isCopy_2 : decode cX6_isCopy 2 = .ok (.aload_n 0, 1) := by decide +kernel
theorem dX6_isCopy_3 : decode cX6_isCopy 3 = .ok (.getfield 26, 3) := by decide +kernel
theorem dX6_isCopy_6 : decode cX6_isCopy 6 = .ok (.iconst 1, 1) := by decide +kernel
theorem dX6_isCopy_7 : decode cX6_isCopy 7 = .ok (.isub, 1) := by decide +kernel
theorem dX6_isCopy_8 : decode cX6_isCopy 8 = .ok (.invokestatic 78, 3) := by decide +kernel
theorem dX6_isCopy_11 : decode cX6_isCopy 11 = .ok (.ireturn, 1) := by decide +kernel
set_option maxRecDepth 20000 in
theorem ggX6_isLetter_X6_in : GoodIn wsX6_isLetter wsX6_in := goodIn_r _ [5] (by decide +kernel) (by decide +kernel)
set_option maxRecDepth 20000 in
theorem gX6_isLetter_X6_in : GoodIn wsX6_isLetter (va_wsS RX6 78 yX6_in wsX6_in) := goodIn_app (goodIn_of _ (by decide +kernel)) ggX6_isLetter_X6_in
theorem dX6_isLetter_0 : decode cX6_isLetter 0 = .ok (.iload_n 1, 1) := by decide +kernel
theorem dX6_isLetter_1 : decode cX6_isLetter 1 = .ok (.iconst 0, 1) := by decide +kernel
theorem dX6_isLetter_2 : decode cX6_isLetter 2 = .ok (.aload_n 0, 1) := by decide +kernel
theorem dX6_isLetter_3 : decode cX6_isLetter 3 = .ok (.getfield 82, 3) := by decide +kernel
theorem dX6_isLetter_6 : decode cX6_isLetter 6 = .ok (.iconst 1, 1) := by decide +kernel
theorem dX6_isLetter_7 : decode cX6_isLetter 7 = .ok (.isub, 1) := by decide +kernel
theorem dX6_isLetter_8 : decode cX6_isLetter 8 = .ok (.invokestatic 78, 3) := by decide +kernel
theorem dX6_isLetter_11 : decode cX6_isLetter 11 = .ok (.ireturn, 1) := by decide +kernel
set_option maxRecDepth 20000 in
theorem ggX6_isLoan_X6_in : GoodIn wsX6_isLoan wsX6_in := goodIn_r _ [5] (by decide +kernel) (by decide +kernel)
set_option maxRecDepth 20000 in
theorem gX6_isLoan_X6_in : GoodIn wsX6_isLoan (va_wsS RX6 78 yX6_in wsX6_in) := goodIn_app (goodIn_of _ (by decide +kernel)) ggX6_isLoan_X6_in
theorem dX6_isLoan_0 : decode cX6_isLoan 0 = .ok (.iload_n 1, 1) := by decide +kernel
theorem dX6_isLoan_1 : decode cX6_isLoan 1 = .ok (.iconst 0, 1) := by decide +kernel
theorem dX6_isLoan_2 : decode cX6_isLoan 2 = .ok (.aload_n 0, 1) := by decide +kernel
theorem dX6_isLoan_3 : decode cX6_isLoan 3 = .ok (.getfield 85, 3) := by decide +kernel
theorem dX6_isLoan_6 : decode cX6_isLoan 6 = .ok (.iconst 1, 1) := by decide +kernel
theorem dX6_isLoan_7 : decode cX6_isLoan 7 = .ok (.isub, 1) := by decide +kernel
theorem dX6_isLoan_8 : decode cX6_isLoan 8 = .ok (.invokestatic 78, 3) := by decide +kernel
theorem dX6_isLoan_11 : decode cX6_isLoan 11 = .ok (.ireturn, 1) := by decide +kernel
set_option maxRecDepth 20000 in
theorem ggX6_slip_X6_isPlace : GoodIn wsX6_slip wsX6_isPlace := goodIn_r _ [6, 7, 8, 5, 9] (by decide +kernel) (by decide +kernel)
set_option maxRecDepth 20000 in
theorem gX6_slip_X6_isPlace : GoodIn wsX6_slip (va_wsS RX6 88 yX6_isPlace wsX6_isPlace) := goodIn_app (goodIn_of _ (by decide +kernel)) ggX6_slip_X6_isPlace
set_option maxRecDepth 20000 in
theorem ggX6_slip_X6_in : GoodIn wsX6_slip wsX6_in := goodIn_r _ [9] (by decide +kernel) (by decide +kernel)
set_option maxRecDepth 20000 in
theorem gX6_slip_X6_in : GoodIn wsX6_slip (va_wsS RX6 78 yX6_in wsX6_in) := goodIn_app (goodIn_of _ (by decide +kernel)) ggX6_slip_X6_in
set_option maxRecDepth 20000 in
theorem ggX6_slip_X6_goes : GoodIn wsX6_slip wsX6_goes := goodIn_r _ [13, 14, 15, 16, 17, 18, 19, 20, 21, 22, 23, 24, 25, 26, 27, 28, 29, 30, 31, 32, 33, 34, 35, 36, 37, 38, 39, 40] (by decide +kernel) (by decide +kernel)
set_option maxRecDepth 20000 in
theorem gX6_slip_X6_goes : GoodIn wsX6_slip (wsV RX6 95 RX6 yX6_goes wsX6_goes) := goodIn_app (goodIn_of _ (by decide +kernel)) ggX6_slip_X6_goes
theorem dX6_slip_0 : decode cX6_slip 0 = .ok (.iload_n 1, 1) := by decide +kernel
theorem dX6_slip_1 : decode cX6_slip 1 = .ok (.invokestatic 88, 3) := by decide +kernel
theorem dX6_slip_4 : decode cX6_slip 4 = .ok (.istore_n 3, 1) := by decide +kernel
theorem dX6_slip_5 : decode cX6_slip 5 = .ok (.iload_n 3, 1) := by decide +kernel
theorem dX6_slip_6 : decode cX6_slip 6 = .ok (.ifCond .eq 31, 3) := by decide +kernel
theorem dX6_slip_9 : decode cX6_slip 9 = .ok (.iload_n 2, 1) := by decide +kernel
theorem dX6_slip_10 : decode cX6_slip 10 = .ok (.iconst (-1), 1) := by decide +kernel
theorem dX6_slip_11 : decode cX6_slip 11 = .ok (.if_icmp .eq 22, 3) := by decide +kernel
theorem dX6_slip_14 : decode cX6_slip 14 = .ok (.aload_n 0, 1) := by decide +kernel
theorem dX6_slip_15 : decode cX6_slip 15 = .ok (.getfield 30, 3) := by decide +kernel
theorem dX6_slip_18 : decode cX6_slip 18 = .ok (.iload_n 1, 1) := by decide +kernel
theorem dX6_slip_19 : decode cX6_slip 19 = .ok (.iaload, 1) := by decide +kernel
theorem dX6_slip_20 : decode cX6_slip 20 = .ok (.iconst (-1), 1) := by decide +kernel
theorem dX6_slip_21 : decode cX6_slip 21 = .ok (.if_icmp .ne 12, 3) := by decide +kernel
theorem dX6_slip_24 : decode cX6_slip 24 = .ok (.aload_n 0, 1) := by decide +kernel
theorem dX6_slip_25 : decode cX6_slip 25 = .ok (.getfield 92, 3) := by decide +kernel
theorem dX6_slip_28 : decode cX6_slip 28 = .ok (.bipush 6, 2) := by decide +kernel
theorem dX6_slip_30 : decode cX6_slip 30 = .ok (.if_icmp .ge 7, 3) := by decide +kernel
theorem dX6_slip_33 : decode cX6_slip 33 = .ok (.iconst 1, 1) := by decide +kernel
theorem dX6_slip_34 : decode cX6_slip 34 = .ok (.goto 4, 3) := by decide +kernel
theorem dX6_slip_37 : decode cX6_slip 37 = .ok (.iconst 0, 1) := by decide +kernel
theorem dX6_slip_38 : decode cX6_slip 38 = .ok (.istore 4, 2) := by decide +kernel
theorem dX6_slip_40 : decode cX6_slip 40 = .ok (.aload_n 0, 1) := by decide +kernel
theorem dX6_slip_41 : decode cX6_slip 41 = .ok (.iload_n 3, 1) := by decide +kernel
theorem dX6_slip_42 : decode cX6_slip 42 = .ok (.iload_n 2, 1) := by decide +kernel
theorem dX6_slip_43 : decode cX6_slip 43 = .ok (.iconst (-1), 1) := by decide +kernel
theorem dX6_slip_44 : decode cX6_slip 44 = .ok (.bipush 9, 2) := by decide +kernel
theorem dX6_slip_46 : decode cX6_slip 46 = .ok (.invokestatic 78, 3) := by decide +kernel
theorem dX6_slip_49 : decode cX6_slip 49 = .ok (.iload 4, 2) := by decide +kernel
theorem dX6_slip_51 : decode cX6_slip 51 = .ok (.invokevirtual 95, 3) := by decide +kernel
theorem dX6_slip_54 : decode cX6_slip 54 = .ok (.ifCond .ne 5, 3) := by decide +kernel
theorem dX6_slip_57 : decode cX6_slip 57 = .ok (.iconst 0, 1) := by decide +kernel
theorem dX6_slip_58 : decode cX6_slip 58 = .ok (.ireturn, 1) := by decide +kernel
theorem dX6_slip_59 : decode cX6_slip 59 = .ok (.aload_n 0, 1) := by decide +kernel
theorem dX6_slip_60 : decode cX6_slip 60 = .ok (.dup, 1) := by decide +kernel
theorem dX6_slip_61 : decode cX6_slip 61 = .ok (.getfield 92, 3) := by decide +kernel
theorem dX6_slip_64 : decode cX6_slip 64 = .ok (.iload_n 2, 1) := by decide +kernel
theorem dX6_slip_65 : decode cX6_slip 65 = .ok (.iconst (-1), 1) := by decide +kernel
theorem dX6_slip_66 : decode cX6_slip 66 = .ok (.if_icmp .ne 7, 3) := by decide +kernel
theorem dX6_slip_69 : decode cX6_slip 69 = .ok (.iconst 0, 1) := by decide +kernel
theorem dX6_slip_70 : decode cX6_slip 70 = .ok (.goto 4, 3) := by decide +kernel
theorem dX6_slip_73 : decode cX6_slip 73 = .ok (.iconst 1, 1) := by decide +kernel
theorem dX6_slip_74 : decode cX6_slip 74 = .ok (.aload_n 0, 1) := by decide +kernel
theorem dX6_slip_75 : decode cX6_slip 75 = .ok (.getfield 30, 3) := by decide +kernel
theorem dX6_slip_78 : decode cX6_slip 78 = .ok (.iload_n 1, 1) := by decide +kernel
theorem dX6_slip_79 : decode cX6_slip 79 = .ok (.iaload, 1) := by decide +kernel
theorem dX6_slip_80 : decode cX6_slip 80 = .ok (.iconst (-1), 1) := by decide +kernel
theorem dX6_slip_81 : decode cX6_slip 81 = .ok (.if_icmp .ne 7, 3) := by decide +kernel
theorem dX6_slip_84 : decode cX6_slip 84 = .ok (.iconst 0, 1) := by decide +kernel
theorem dX6_slip_85 : decode cX6_slip 85 = .ok (.goto 4, 3) := by decide +kernel
theorem dX6_slip_88 : decode cX6_slip 88 = .ok (.iconst 1, 1) := by decide +kernel
theorem dX6_slip_89 : decode cX6_slip 89 = .ok (.isub, 1) := by decide +kernel
theorem dX6_slip_90 : decode cX6_slip 90 = .ok (.iadd, 1) := by decide +kernel
theorem dX6_slip_91 : decode cX6_slip 91 = .ok (.putfield 92, 3) := by decide +kernel
theorem dX6_slip_94 : decode cX6_slip 94 = .ok (.aload_n 0, 1) := by decide +kernel
theorem dX6_slip_95 : decode cX6_slip 95 = .ok (.getfield 30, 3) := by decide +kernel
theorem dX6_slip_98 : decode cX6_slip 98 = .ok (.iload_n 1, 1) := by decide +kernel
theorem dX6_slip_99 : decode cX6_slip 99 = .ok (.iload_n 2, 1) := by decide +kernel
theorem dX6_slip_100 : decode cX6_slip 100 = .ok (.iastore, 1) := by decide +kernel
theorem dX6_slip_101 : decode cX6_slip 101 = .ok (.aload_n 0, 1) := by decide +kernel
theorem dX6_slip_102 : decode cX6_slip 102 = .ok (.getfield 92, 3) := by decide +kernel
theorem dX6_slip_105 : decode cX6_slip 105 = .ok (.ireturn, 1) := by decide +kernel
set_option maxRecDepth 20000 in
theorem ggX6_copy_X6_isCopy : GoodIn wsX6_copy wsX6_isCopy := goodIn_r _ [14, 2, 15, 16, 13, 17, 29, 30, 31, 32, 33, 34, 35, 36, 37, 38, 39, 40, 41, 42, 43, 44, 45, 46, 47, 48, 49, 50, 51, 52, 53, 54] (by decide +kernel) (by decide +kernel)
set_option maxRecDepth 20000 in
theorem gX6_copy_X6_isCopy : GoodIn wsX6_copy (wsV RX6 99 RX6 yX6_isCopy wsX6_isCopy) := goodIn_app (goodIn_of _ (by decide +kernel)) ggX6_copy_X6_isCopy
set_option maxRecDepth 20000 in
theorem ggX6_copy_X6_isScribe : GoodIn wsX6_copy wsX6_isScribe := goodIn_r _ [20, 15, 16, 13, 17] (by decide +kernel) (by decide +kernel)
set_option maxRecDepth 20000 in
theorem gX6_copy_X6_isScribe : GoodIn wsX6_copy (va_wsS RX6 102 yX6_isScribe wsX6_isScribe) := goodIn_app (goodIn_of _ (by decide +kernel)) ggX6_copy_X6_isScribe
set_option maxRecDepth 20000 in
theorem ggX6_copy_X6_isHouse : GoodIn wsX6_copy wsX6_isHouse := goodIn_r _ [23, 15, 16, 13, 17] (by decide +kernel) (by decide +kernel)
set_option maxRecDepth 20000 in
theorem gX6_copy_X6_isHouse : GoodIn wsX6_copy (va_wsS RX6 105 yX6_isHouse wsX6_isHouse) := goodIn_app (goodIn_of _ (by decide +kernel)) ggX6_copy_X6_isHouse
set_option maxRecDepth 20000 in
theorem ggX6_copy_X6_goes : GoodIn wsX6_copy wsX6_goes := goodIn_r _ [27, 28, 29, 30, 31, 32, 33, 34, 35, 36, 37, 38, 39, 40, 41, 42, 43, 44, 45, 46, 47, 48, 49, 50, 51, 52, 53, 54] (by decide +kernel) (by decide +kernel)
set_option maxRecDepth 20000 in
theorem gX6_copy_X6_goes : GoodIn wsX6_copy (wsV RX6 95 RX6 yX6_goes wsX6_goes) := goodIn_app (goodIn_of _ (by decide +kernel)) ggX6_copy_X6_goes
theorem dX6_copy_0 : decode cX6_copy 0 = .ok (.aload_n 0, 1) := by decide +kernel
theorem dX6_copy_1 : decode cX6_copy 1 = .ok (.iload_n 1, 1) := by decide +kernel
theorem dX6_copy_2 : decode cX6_copy 2 = .ok (.invokevirtual 99, 3) := by decide +kernel
theorem dX6_copy_5 : decode cX6_copy 5 = .ok (.ifCond .eq 21, 3) := by decide +kernel
theorem dX6_copy_8 : decode cX6_copy 8 = .ok (.iload_n 2, 1) := by decide +kernel
theorem dX6_copy_9 : decode cX6_copy 9 = .ok (.invokestatic 102, 3) := by decide +kernel
theorem dX6_copy_12 : decode cX6_copy 12 = .ok (.ifCond .eq 14, 3) := by decide +kernel
theorem dX6_copy_15 : decode cX6_copy 15 = .ok (.iload_n 3, 1) := by decide +kernel
theorem dX6_copy_16 : decode cX6_copy 16 = .ok (.invokestatic 105, 3) := by decide +kernel
theorem dX6_copy_19 : decode cX6_copy 19 = .ok (.ifCond .eq 7, 3) := by decide +kernel
theorem dX6_copy_22 : decode cX6_copy 22 = .ok (.iconst 1, 1) := by decide +kernel
theorem dX6_copy_23 : decode cX6_copy 23 = .ok (.goto 4, 3) := by decide +kernel
theorem dX6_copy_26 : decode cX6_copy 26 = .ok (.iconst 0, 1) := by decide +kernel
theorem dX6_copy_27 : decode cX6_copy 27 = .ok (.istore 5, 2) := by decide +kernel
theorem dX6_copy_29 : decode cX6_copy 29 = .ok (.aload_n 0, 1) := by decide +kernel
theorem dX6_copy_30 : decode cX6_copy 30 = .ok (.iload 5, 2) := by decide +kernel
theorem dX6_copy_32 : decode cX6_copy 32 = .ok (.iload 5, 2) := by decide +kernel
theorem dX6_copy_34 : decode cX6_copy 34 = .ok (.ifCond .eq 26, 3) := by decide +kernel
theorem dX6_copy_37 : decode cX6_copy 37 = .ok (.aload_n 0, 1) := by decide +kernel
theorem dX6_copy_38 : decode cX6_copy 38 = .ok (.getfield 23, 3) := by decide +kernel
theorem dX6_copy_41 : decode cX6_copy 41 = .ok (.iload_n 1, 1) := by decide +kernel
theorem dX6_copy_42 : decode cX6_copy 42 = .ok (.iaload, 1) := by decide +kernel
theorem dX6_copy_43 : decode cX6_copy 43 = .ok (.iload_n 3, 1) := by decide +kernel
theorem dX6_copy_44 : decode cX6_copy 44 = .ok (.if_icmp .ne 16, 3) := by decide +kernel
theorem dX6_copy_47 : decode cX6_copy 47 = .ok (.aload_n 0, 1) := by decide +kernel
theorem dX6_copy_48 : decode cX6_copy 48 = .ok (.getfield 26, 3) := by decide +kernel
theorem dX6_copy_51 : decode cX6_copy 51 = .ok (.bipush 40, 2) := by decide +kernel
theorem dX6_copy_53 : decode cX6_copy 53 = .ok (.if_icmp .ge 7, 3) := by decide +kernel
theorem dX6_copy_56 : decode cX6_copy 56 = .ok (.iconst 1, 1) := by decide +kernel
theorem dX6_copy_57 : decode cX6_copy 57 = .ok (.goto 4, 3) := by decide +kernel
theorem dX6_copy_60 : decode cX6_copy 60 = .ok (.iconst 0, 1) := by decide +kernel
theorem dX6_copy_61 : decode cX6_copy 61 = .ok (.iconst 1, 1) := by decide +kernel
theorem dX6_copy_62 : decode cX6_copy 62 = .ok (.invokevirtual 95, 3) := by decide +kernel
theorem dX6_copy_65 : decode cX6_copy 65 = .ok (.ifCond .ne 5, 3) := by decide +kernel
theorem dX6_copy_68 : decode cX6_copy 68 = .ok (.iconst 0, 1) := by decide +kernel
theorem dX6_copy_69 : decode cX6_copy 69 = .ok (.ireturn, 1) := by decide +kernel
theorem dX6_copy_70 : decode cX6_copy 70 = .ok (.iconst 0, 1) := by decide +kernel
theorem dX6_copy_71 : decode cX6_copy 71 = .ok (.istore 6, 2) := by decide +kernel
theorem dX6_copy_73 : decode cX6_copy 73 = .ok (.iload 6, 2) := by decide +kernel
theorem dX6_copy_75 : decode cX6_copy 75 = .ok (.bipush 24, 2) := by decide +kernel
theorem dX6_copy_77 : decode cX6_copy 77 = .ok (.if_icmp .ge 106, 3) := by decide +kernel
theorem dX6_copy_80 : decode cX6_copy 80 = .ok (.aload_n 0, 1) := by decide +kernel
theorem dX6_copy_81 : decode cX6_copy 81 = .ok (.getfield 7, 3) := by decide +kernel
theorem dX6_copy_84 : decode cX6_copy 84 = .ok (.bipush 24, 2) := by decide +kernel
theorem dX6_copy_86 : decode cX6_copy 86 = .ok (.iload_n 1, 1) := by decide +kernel
theorem dX6_copy_87 : decode cX6_copy 87 = .ok (.imul, 1) := by decide +kernel
theorem dX6_copy_88 : decode cX6_copy 88 = .ok (.iload 6, 2) := by decide +kernel
theorem dX6_copy_90 : decode cX6_copy 90 = .ok (.iadd, 1) := by decide +kernel
theorem dX6_copy_91 : decode cX6_copy 91 = .ok (.iaload, 1) := by decide +kernel
theorem dX6_copy_92 : decode cX6_copy 92 = .ok (.istore 7, 2) := by decide +kernel
theorem dX6_copy_94 : decode cX6_copy 94 = .ok (.aload_n 0, 1) := by decide +kernel
theorem dX6_copy_95 : decode cX6_copy 95 = .ok (.getfield 33, 3) := by decide +kernel
theorem dX6_copy_98 : decode cX6_copy 98 = .ok (.iload_n 2, 1) := by decide +kernel
theorem dX6_copy_99 : decode cX6_copy 99 = .ok (.dup2, 1) := by decide +kernel
theorem dX6_copy_100 : decode cX6_copy 100 = .ok (.iaload, 1) := by decide +kernel
theorem dX6_copy_101 : decode cX6_copy 101 = .ok (.aload_n 0, 1) := by decide +kernel
theorem dX6_copy_102 : decode cX6_copy 102 = .ok (.getfield 30, 3) := by decide +kernel
theorem dX6_copy_105 : decode cX6_copy 105 = .ok (.iload 6, 2) := by decide +kernel
theorem dX6_copy_107 : decode cX6_copy 107 = .ok (.iaload, 1) := by decide +kernel
theorem dX6_copy_108 : decode cX6_copy 108 = .ok (.iconst (-1), 1) := by decide +kernel
theorem dX6_copy_109 : decode cX6_copy 109 = .ok (.if_icmp .eq 19, 3) := by decide +kernel
theorem dX6_copy_112 : decode cX6_copy 112 = .ok (.aload_n 0, 1) := by decide +kernel
theorem dX6_copy_113 : decode cX6_copy 113 = .ok (.getfield 30, 3) := by decide +kernel
theorem dX6_copy_116 : decode cX6_copy 116 = .ok (.iload 6, 2) := by decide +kernel
theorem dX6_copy_118 : decode cX6_copy 118 = .ok (.iaload, 1) := by decide +kernel
theorem dX6_copy_119 : decode cX6_copy 119 = .ok (.iload 7, 2) := by decide +kernel
theorem dX6_copy_121 : decode cX6_copy 121 = .ok (.if_icmp .eq 7, 3) := by decide +kernel
theorem dX6_copy_124 : decode cX6_copy 124 = .ok (.iconst 1, 1) := by decide +kernel
theorem dX6_copy_125 : decode cX6_copy 125 = .ok (.goto 4, 3) := by decide +kernel
theorem dX6_copy_128 : decode cX6_copy 128 = .ok (.iconst 0, 1) := by decide +kernel
theorem dX6_copy_129 : decode cX6_copy 129 = .ok (.iadd, 1) := by decide +kernel
theorem dX6_copy_130 : decode cX6_copy 130 = .ok (.iastore, 1) := by decide +kernel
theorem dX6_copy_131 : decode cX6_copy 131 = .ok (.aload_n 0, 1) := by decide +kernel
theorem dX6_copy_132 : decode cX6_copy 132 = .ok (.getfield 7, 3) := by decide +kernel
theorem dX6_copy_135 : decode cX6_copy 135 = .ok (.bipush 24, 2) := by decide +kernel
theorem dX6_copy_137 : decode cX6_copy 137 = .ok (.aload_n 0, 1) := by decide +kernel
theorem dX6_copy_138 : decode cX6_copy 138 = .ok (.getfield 26, 3) := by decide +kernel
theorem dX6_copy_141 : decode cX6_copy 141 = .ok (.imul, 1) := by decide +kernel
theorem dX6_copy_142 : decode cX6_copy 142 = .ok (.iload 6, 2) := by decide +kernel
theorem dX6_copy_144 : decode cX6_copy 144 = .ok (.iadd, 1) := by decide +kernel
theorem dX6_copy_145 : decode cX6_copy 145 = .ok (.aload_n 0, 1) := by decide +kernel
theorem dX6_copy_146 : decode cX6_copy 146 = .ok (.getfield 30, 3) := by decide +kernel
theorem dX6_copy_149 : decode cX6_copy 149 = .ok (.iload 6, 2) := by decide +kernel
theorem dX6_copy_151 : decode cX6_copy 151 = .ok (.iaload, 1) := by decide +kernel
theorem dX6_copy_152 : decode cX6_copy 152 = .ok (.iconst (-1), 1) := by decide +kernel
theorem dX6_copy_153 : decode cX6_copy 153 = .ok (.if_icmp .ne 8, 3) := by decide +kernel
theorem dX6_copy_156 : decode cX6_copy 156 = .ok (.iload 7, 2) := by decide +kernel
theorem dX6_copy_158 : decode cX6_copy 158 = .ok (.goto 10, 3) := by decide +kernel
theorem dX6_copy_161 : decode cX6_copy 161 = .ok (.aload_n 0, 1) := by decide +kernel
theorem dX6_copy_162 : decode cX6_copy 162 = .ok (.getfield 30, 3) := by decide +kernel
theorem dX6_copy_165 : decode cX6_copy 165 = .ok (.iload 6, 2) := by decide +kernel
theorem dX6_copy_167 : decode cX6_copy 167 = .ok (.iaload, 1) := by decide +kernel
theorem dX6_copy_168 : decode cX6_copy 168 = .ok (.iastore, 1) := by decide +kernel
theorem dX6_copy_169 : decode cX6_copy 169 = .ok (.aload_n 0, 1) := by decide +kernel
theorem dX6_copy_170 : decode cX6_copy 170 = .ok (.getfield 30, 3) := by decide +kernel
theorem dX6_copy_173 : decode cX6_copy 173 = .ok (.iload 6, 2) := by decide +kernel
theorem dX6_copy_175 : decode cX6_copy 175 = .ok (.iconst (-1), 1) := by decide +kernel
theorem dX6_copy_176 : decode cX6_copy 176 = .ok (.iastore, 1) := by decide +kernel
theorem dX6_copy_177 : decode cX6_copy 177 = .ok (.iinc 6 1, 3) := by decide +kernel
theorem dX6_copy_180 : decode cX6_copy 180 = .ok (.goto (-107), 3) := by decide +kernel
theorem dX6_copy_183 : decode cX6_copy 183 = .ok (.aload_n 0, 1) := by decide +kernel
theorem dX6_copy_184 : decode cX6_copy 184 = .ok (.iconst 0, 1) := by decide +kernel
theorem dX6_copy_185 : decode cX6_copy 185 = .ok (.putfield 92, 3) := by decide +kernel
theorem dX6_copy_188 : decode cX6_copy 188 = .ok (.aload_n 0, 1) := by decide +kernel
theorem dX6_copy_189 : decode cX6_copy 189 = .ok (.getfield 13, 3) := by decide +kernel
theorem dX6_copy_192 : decode cX6_copy 192 = .ok (.aload_n 0, 1) := by decide +kernel
theorem dX6_copy_193 : decode cX6_copy 193 = .ok (.getfield 26, 3) := by decide +kernel
theorem dX6_copy_196 : decode cX6_copy 196 = .ok (.iload_n 1, 1) := by decide +kernel
theorem dX6_copy_197 : decode cX6_copy 197 = .ok (.iastore, 1) := by decide +kernel
theorem dX6_copy_198 : decode cX6_copy 198 = .ok (.aload_n 0, 1) := by decide +kernel
theorem dX6_copy_199 : decode cX6_copy 199 = .ok (.getfield 16, 3) := by decide +kernel
theorem dX6_copy_202 : decode cX6_copy 202 = .ok (.aload_n 0, 1) := by decide +kernel
theorem dX6_copy_203 : decode cX6_copy 203 = .ok (.getfield 26, 3) := by decide +kernel
theorem dX6_copy_206 : decode cX6_copy 206 = .ok (.iload 4, 2) := by decide +kernel
theorem dX6_copy_208 : decode cX6_copy 208 = .ok (.bastore, 1) := by decide +kernel
theorem dX6_copy_209 : decode cX6_copy 209 = .ok (.aload_n 0, 1) := by decide +kernel
theorem dX6_copy_210 : decode cX6_copy 210 = .ok (.getfield 20, 3) := by decide +kernel
theorem dX6_copy_213 : decode cX6_copy 213 = .ok (.aload_n 0, 1) := by decide +kernel
theorem dX6_copy_214 : decode cX6_copy 214 = .ok (.getfield 26, 3) := by decide +kernel
theorem dX6_copy_217 : decode cX6_copy 217 = .ok (.iload_n 3, 1) := by decide +kernel
theorem dX6_copy_218 : decode cX6_copy 218 = .ok (.iastore, 1) := by decide +kernel
theorem dX6_copy_219 : decode cX6_copy 219 = .ok (.aload_n 0, 1) := by decide +kernel
theorem dX6_copy_220 : decode cX6_copy 220 = .ok (.getfield 23, 3) := by decide +kernel
theorem dX6_copy_223 : decode cX6_copy 223 = .ok (.aload_n 0, 1) := by decide +kernel
theorem dX6_copy_224 : decode cX6_copy 224 = .ok (.getfield 26, 3) := by decide +kernel
theorem dX6_copy_227 : decode cX6_copy 227 = .ok (.iload_n 3, 1) := by decide +kernel
theorem dX6_copy_228 : decode cX6_copy 228 = .ok (.iastore, 1) := by decide +kernel
theorem dX6_copy_229 : decode cX6_copy 229 = .ok (.aload_n 0, 1) := by decide +kernel
theorem dX6_copy_230 : decode cX6_copy 230 = .ok (.dup, 1) := by decide +kernel
theorem dX6_copy_231 : decode cX6_copy 231 = .ok (.getfield 26, 3) := by decide +kernel
theorem dX6_copy_234 : decode cX6_copy 234 = .ok (.iconst 1, 1) := by decide +kernel
theorem dX6_copy_235 : decode cX6_copy 235 = .ok (.iadd, 1) := by decide +kernel
theorem dX6_copy_236 : decode cX6_copy 236 = .ok (.putfield 26, 3) := by decide +kernel
theorem dX6_copy_239 : decode cX6_copy 239 = .ok (.aload_n 0, 1) := by decide +kernel
theorem dX6_copy_240 : decode cX6_copy 240 = .ok (.getfield 26, 3) := by decide +kernel
theorem dX6_copy_243 : decode cX6_copy 243 = .ok (.iconst 1, 1) := by decide +kernel
theorem dX6_copy_244 : decode cX6_copy 244 = .ok (.isub, 1) := by decide +kernel
theorem dX6_copy_245 : decode cX6_copy 245 = .ok (.ireturn, 1) := by decide +kernel
set_option maxRecDepth 20000 in
theorem ggX6_tellModel_X6_isCopy : GoodIn wsX6_tellModel wsX6_isCopy := goodIn_r _ [7, 8, 9, 10, 6, 11, 31, 32, 33, 34, 35, 36, 37, 38, 39, 40, 41, 42, 43, 44, 45, 46, 47, 48, 49, 50, 51, 52, 53, 54, 55, 56] (by decide +kernel) (by decide +kernel)
set_option maxRecDepth 20000 in
theorem gX6_tellModel_X6_isCopy : GoodIn wsX6_tellModel (wsV RX6 99 RX6 yX6_isCopy wsX6_isCopy) := goodIn_app (goodIn_of _ (by decide +kernel)) ggX6_tellModel_X6_isCopy
set_option maxRecDepth 20000 in
theorem ggX6_tellModel_X6_goes : GoodIn wsX6_tellModel wsX6_goes := goodIn_r _ [15, 16, 31, 32, 33, 34, 35, 36, 37, 38, 39, 40, 41, 42, 43, 44, 45, 46, 47, 48, 49, 50, 51, 52, 53, 54, 55, 56] (by decide +kernel) (by decide +kernel)
set_option maxRecDepth 20000 in
theorem gX6_tellModel_X6_goes : GoodIn wsX6_tellModel (wsV RX6 95 RX6 yX6_goes wsX6_goes) := goodIn_app (goodIn_of _ (by decide +kernel)) ggX6_tellModel_X6_goes
set_option maxRecDepth 20000 in
theorem ggX6_tellModel_X6_sorts : GoodIn wsX6_tellModel wsX6_sorts := goodIn_r _ [20, 8, 2, 21, 22, 23, 6, 24, 1, 25, 26, 27, 28, 29, 30, 31, 32, 33, 34, 35, 36, 37, 38, 39, 40, 41, 42, 43, 44, 45, 46, 47, 48, 49, 50, 51, 52, 53, 54, 55, 56] (by decide +kernel) (by decide +kernel)
set_option maxRecDepth 20000 in
theorem gX6_tellModel_X6_sorts : GoodIn wsX6_tellModel (wsV RX6 108 RX6 yX6_sorts wsX6_sorts) := goodIn_app (goodIn_of _ (by decide +kernel)) ggX6_tellModel_X6_sorts
theorem dX6_tellModel_0 : decode cX6_tellModel 0 = .ok (.aload_n 0, 1) := by decide +kernel
theorem dX6_tellModel_1 : decode cX6_tellModel 1 = .ok (.iload_n 1, 1) := by decide +kernel
theorem dX6_tellModel_2 : decode cX6_tellModel 2 = .ok (.invokevirtual 99, 3) := by decide +kernel
theorem dX6_tellModel_5 : decode cX6_tellModel 5 = .ok (.istore_n 2, 1) := by decide +kernel
theorem dX6_tellModel_6 : decode cX6_tellModel 6 = .ok (.aload_n 0, 1) := by decide +kernel
theorem dX6_tellModel_7 : decode cX6_tellModel 7 = .ok (.iload_n 2, 1) := by decide +kernel
theorem dX6_tellModel_8 : decode cX6_tellModel 8 = .ok (.iload_n 2, 1) := by decide +kernel
theorem dX6_tellModel_9 : decode cX6_tellModel 9 = .ok (.ifCond .eq 20, 3) := by decide +kernel
theorem dX6_tellModel_12 : decode cX6_tellModel 12 = .ok (.iload_n 1, 1) := by decide +kernel
theorem dX6_tellModel_13 : decode cX6_tellModel 13 = .ok (.ifCond .le 16, 3) := by decide +kernel
theorem dX6_tellModel_16 : decode cX6_tellModel 16 = .ok (.aload_n 0, 1) := by decide +kernel
theorem dX6_tellModel_17 : decode cX6_tellModel 17 = .ok (.getfield 16, 3) := by decide +kernel
theorem dX6_tellModel_20 : decode cX6_tellModel 20 = .ok (.iload_n 1, 1) := by decide +kernel
theorem dX6_tellModel_21 : decode cX6_tellModel 21 = .ok (.baload, 1) := by decide +kernel
theorem dX6_tellModel_22 : decode cX6_tellModel 22 = .ok (.ifCond .ne 7, 3) := by decide +kernel
theorem dX6_tellModel_25 : decode cX6_tellModel 25 = .ok (.iconst 1, 1) := by decide +kernel
theorem dX6_tellModel_26 : decode cX6_tellModel 26 = .ok (.goto 4, 3) := by decide +kernel
theorem dX6_tellModel_29 : decode cX6_tellModel 29 = .ok (.iconst 0, 1) := by decide +kernel
theorem dX6_tellModel_30 : decode cX6_tellModel 30 = .ok (.iconst 1, 1) := by decide +kernel
theorem dX6_tellModel_31 : decode cX6_tellModel 31 = .ok (.invokevirtual 95, 3) := by decide +kernel
theorem dX6_tellModel_34 : decode cX6_tellModel 34 = .ok (.ifCond .ne 5, 3) := by decide +kernel
theorem dX6_tellModel_37 : decode cX6_tellModel 37 = .ok (.iconst 0, 1) := by decide +kernel
theorem dX6_tellModel_38 : decode cX6_tellModel 38 = .ok (.ireturn, 1) := by decide +kernel
theorem dX6_tellModel_39 : decode cX6_tellModel 39 = .ok (.aload_n 0, 1) := by decide +kernel
theorem dX6_tellModel_40 : decode cX6_tellModel 40 = .ok (.getfield 16, 3) := by decide +kernel
theorem dX6_tellModel_43 : decode cX6_tellModel 43 = .ok (.iload_n 1, 1) := by decide +kernel
theorem dX6_tellModel_44 : decode cX6_tellModel 44 = .ok (.iconst 1, 1) := by decide +kernel
theorem dX6_tellModel_45 : decode cX6_tellModel 45 = .ok (.bastore, 1) := by decide +kernel
theorem dX6_tellModel_46 : decode cX6_tellModel 46 = .ok (.aload_n 0, 1) := by decide +kernel
theorem dX6_tellModel_47 : decode cX6_tellModel 47 = .ok (.invokevirtual 108, 3) := by decide +kernel
theorem dX6_tellModel_50 : decode cX6_tellModel 50 = .ok (.aload_n 0, 1) := by decide +kernel
theorem dX6_tellModel_51 : decode cX6_tellModel 51 = .ok (.getfield 72, 3) := by decide +kernel
theorem dX6_tellModel_54 : decode cX6_tellModel 54 = .ok (.iload_n 1, 1) := by decide +kernel
theorem dX6_tellModel_55 : decode cX6_tellModel 55 = .ok (.iaload, 1) := by decide +kernel
theorem dX6_tellModel_56 : decode cX6_tellModel 56 = .ok (.ireturn, 1) := by decide +kernel
set_option maxRecDepth 20000 in
theorem ggX6_pass_X6_in : GoodIn wsX6_pass wsX6_in := goodIn_r _ [5] (by decide +kernel) (by decide +kernel)
set_option maxRecDepth 20000 in
theorem gX6_pass_X6_in : GoodIn wsX6_pass (va_wsS RX6 78 yX6_in wsX6_in) := goodIn_app (goodIn_of _ (by decide +kernel)) ggX6_pass_X6_in
set_option maxRecDepth 20000 in
theorem ggX6_pass_X6_goes : GoodIn wsX6_pass wsX6_goes := goodIn_r _ [9, 10, 11, 12, 13, 14, 15, 16, 17, 18, 19, 20, 21, 22, 23, 24, 25, 26, 27, 28, 29, 30, 31, 32, 33, 34, 35, 36] (by decide +kernel) (by decide +kernel)
set_option maxRecDepth 20000 in
theorem gX6_pass_X6_goes : GoodIn wsX6_pass (wsV RX6 95 RX6 yX6_goes wsX6_goes) := goodIn_app (goodIn_of _ (by decide +kernel)) ggX6_pass_X6_goes
theorem dX6_pass_0 : decode cX6_pass 0 = .ok (.iload_n 1, 1) := by decide +kernel
theorem dX6_pass_1 : decode cX6_pass 1 = .ok (.iconst 1, 1) := by decide +kernel
theorem dX6_pass_2 : decode cX6_pass 2 = .ok (.sipush 200, 3) := by decide +kernel
theorem dX6_pass_5 : decode cX6_pass 5 = .ok (.invokestatic 78, 3) := by decide +kernel
theorem dX6_pass_8 : decode cX6_pass 8 = .ok (.istore_n 2, 1) := by decide +kernel
theorem dX6_pass_9 : decode cX6_pass 9 = .ok (.aload_n 0, 1) := by decide +kernel
theorem dX6_pass_10 : decode cX6_pass 10 = .ok (.iload_n 2, 1) := by decide +kernel
theorem dX6_pass_11 : decode cX6_pass 11 = .ok (.iload_n 2, 1) := by decide +kernel
theorem dX6_pass_12 : decode cX6_pass 12 = .ok (.ifCond .eq 19, 3) := by decide +kernel
theorem dX6_pass_15 : decode cX6_pass 15 = .ok (.aload_n 0, 1) := by decide +kernel
theorem dX6_pass_16 : decode cX6_pass 16 = .ok (.getfield 111, 3) := by decide +kernel
theorem dX6_pass_19 : decode cX6_pass 19 = .ok (.iload_n 1, 1) := by decide +kernel
theorem dX6_pass_20 : decode cX6_pass 20 = .ok (.iadd, 1) := by decide +kernel
theorem dX6_pass_21 : decode cX6_pass 21 = .ok (.sipush 2000, 3) := by decide +kernel
theorem dX6_pass_24 : decode cX6_pass 24 = .ok (.if_icmp .gt 7, 3) := by decide +kernel
theorem dX6_pass_27 : decode cX6_pass 27 = .ok (.iconst 1, 1) := by decide +kernel
theorem dX6_pass_28 : decode cX6_pass 28 = .ok (.goto 4, 3) := by decide +kernel
theorem dX6_pass_31 : decode cX6_pass 31 = .ok (.iconst 0, 1) := by decide +kernel
theorem dX6_pass_32 : decode cX6_pass 32 = .ok (.iconst 1, 1) := by decide +kernel
theorem dX6_pass_33 : decode cX6_pass 33 = .ok (.invokevirtual 95, 3) := by decide +kernel
theorem dX6_pass_36 : decode cX6_pass 36 = .ok (.ifCond .ne 5, 3) := by decide +kernel
theorem dX6_pass_39 : decode cX6_pass 39 = .ok (.iconst 0, 1) := by decide +kernel
theorem dX6_pass_40 : decode cX6_pass 40 = .ok (.ireturn, 1) := by decide +kernel
theorem dX6_pass_41 : decode cX6_pass 41 = .ok (.aload_n 0, 1) := by decide +kernel
theorem dX6_pass_42 : decode cX6_pass 42 = .ok (.dup, 1) := by decide +kernel
theorem dX6_pass_43 : decode cX6_pass 43 = .ok (.getfield 111, 3) := by decide +kernel
theorem dX6_pass_46 : decode cX6_pass 46 = .ok (.iload_n 1, 1) := by decide +kernel
theorem dX6_pass_47 : decode cX6_pass 47 = .ok (.iadd, 1) := by decide +kernel
theorem dX6_pass_48 : decode cX6_pass 48 = .ok (.putfield 111, 3) := by decide +kernel
theorem dX6_pass_51 : decode cX6_pass 51 = .ok (.aload_n 0, 1) := by decide +kernel
theorem dX6_pass_52 : decode cX6_pass 52 = .ok (.getfield 111, 3) := by decide +kernel
theorem dX6_pass_55 : decode cX6_pass 55 = .ok (.ireturn, 1) := by decide +kernel
set_option maxRecDepth 20000 in
theorem ggX6_correct_X6_isHouse : GoodIn wsX6_correct wsX6_isHouse := goodIn_r _ [11, 12, 13, 10, 14] (by decide +kernel) (by decide +kernel)
set_option maxRecDepth 20000 in
theorem gX6_correct_X6_isHouse : GoodIn wsX6_correct (va_wsS RX6 105 yX6_isHouse wsX6_isHouse) := goodIn_app (goodIn_of _ (by decide +kernel)) ggX6_correct_X6_isHouse
set_option maxRecDepth 20000 in
theorem ggX6_correct_X6_isCopy : GoodIn wsX6_correct wsX6_isCopy := goodIn_r _ [18, 19, 12, 13, 10, 14, 28, 29, 30, 31, 32, 33, 34, 35, 36, 37, 38, 39, 40, 41, 42, 43, 44, 45, 46, 47, 48, 49, 50, 51, 52, 53] (by decide +kernel) (by decide +kernel)
set_option maxRecDepth 20000 in
theorem gX6_correct_X6_isCopy : GoodIn wsX6_correct (wsV RX6 99 RX6 yX6_isCopy wsX6_isCopy) := goodIn_app (goodIn_of _ (by decide +kernel)) ggX6_correct_X6_isCopy
set_option maxRecDepth 20000 in
theorem ggX6_correct_X6_isPlace : GoodIn wsX6_correct wsX6_isPlace := goodIn_r _ [22, 12, 13, 10, 14] (by decide +kernel) (by decide +kernel)
set_option maxRecDepth 20000 in
theorem gX6_correct_X6_isPlace : GoodIn wsX6_correct (va_wsS RX6 88 yX6_isPlace wsX6_isPlace) := goodIn_app (goodIn_of _ (by decide +kernel)) ggX6_correct_X6_isPlace
set_option maxRecDepth 20000 in
theorem ggX6_correct_X6_goes : GoodIn wsX6_correct wsX6_goes := goodIn_r _ [26, 27, 28, 29, 30, 31, 32, 33, 34, 35, 36, 37, 38, 39, 40, 41, 42, 43, 44, 45, 46, 47, 48, 49, 50, 51, 52, 53] (by decide +kernel) (by decide +kernel)
set_option maxRecDepth 20000 in
theorem gX6_correct_X6_goes : GoodIn wsX6_correct (wsV RX6 95 RX6 yX6_goes wsX6_goes) := goodIn_app (goodIn_of _ (by decide +kernel)) ggX6_correct_X6_goes
theorem dX6_correct_0 : decode cX6_correct 0 = .ok (.iload_n 1, 1) := by decide +kernel
theorem dX6_correct_1 : decode cX6_correct 1 = .ok (.invokestatic 105, 3) := by decide +kernel
theorem dX6_correct_4 : decode cX6_correct 4 = .ok (.ifCond .eq 31, 3) := by decide +kernel
theorem dX6_correct_7 : decode cX6_correct 7 = .ok (.aload_n 0, 1) := by decide +kernel
theorem dX6_correct_8 : decode cX6_correct 8 = .ok (.iload_n 2, 1) := by decide +kernel
theorem dX6_correct_9 : decode cX6_correct 9 = .ok (.invokevirtual 99, 3) := by decide +kernel
theorem dX6_correct_12 : decode cX6_correct 12 = .ok (.ifCond .eq 23, 3) := by decide +kernel
theorem dX6_correct_15 : decode cX6_correct 15 = .ok (.aload_n 0, 1) := by decide +kernel
theorem dX6_correct_16 : decode cX6_correct 16 = .ok (.iload_n 3, 1) := by decide +kernel
theorem dX6_correct_17 : decode cX6_correct 17 = .ok (.invokevirtual 99, 3) := by decide +kernel
theorem dX6_correct_20 : decode cX6_correct 20 = .ok (.ifCond .eq 15, 3) := by decide +kernel
theorem dX6_correct_23 : decode cX6_correct 23 = .ok (.iload 4, 2) := by decide +kernel
theorem dX6_correct_25 : decode cX6_correct 25 = .ok (.invokestatic 88, 3) := by decide +kernel
theorem dX6_correct_28 : decode cX6_correct 28 = .ok (.ifCond .eq 7, 3) := by decide +kernel
theorem dX6_correct_31 : decode cX6_correct 31 = .ok (.iconst 1, 1) := by decide +kernel
theorem dX6_correct_32 : decode cX6_correct 32 = .ok (.goto 4, 3) := by decide +kernel
theorem dX6_correct_35 : decode cX6_correct 35 = .ok (.iconst 0, 1) := by decide +kernel
theorem dX6_correct_36 : decode cX6_correct 36 = .ok (.istore 5, 2) := by decide +kernel
theorem dX6_correct_38 : decode cX6_correct 38 = .ok (.iload 5, 2) := by decide +kernel
theorem dX6_correct_40 : decode cX6_correct 40 = .ok (.ifCond .eq 63, 3) := by decide +kernel
theorem dX6_correct_43 : decode cX6_correct 43 = .ok (.aload_n 0, 1) := by decide +kernel
theorem dX6_correct_44 : decode cX6_correct 44 = .ok (.getfield 23, 3) := by decide +kernel
theorem dX6_correct_47 : decode cX6_correct 47 = .ok (.iload_n 2, 1) := by decide +kernel
theorem dX6_correct_48 : decode cX6_correct 48 = .ok (.iaload, 1) := by decide +kernel
theorem dX6_correct_49 : decode cX6_correct 49 = .ok (.iload_n 1, 1) := by decide +kernel
theorem dX6_correct_50 : decode cX6_correct 50 = .ok (.if_icmp .ne 53, 3) := by decide +kernel
theorem dX6_correct_53 : decode cX6_correct 53 = .ok (.aload_n 0, 1) := by decide +kernel
theorem dX6_correct_54 : decode cX6_correct 54 = .ok (.getfield 23, 3) := by decide +kernel
theorem dX6_correct_57 : decode cX6_correct 57 = .ok (.iload_n 3, 1) := by decide +kernel
theorem dX6_correct_58 : decode cX6_correct 58 = .ok (.iaload, 1) := by decide +kernel
theorem dX6_correct_59 : decode cX6_correct 59 = .ok (.iload_n 1, 1) := by decide +kernel
theorem dX6_correct_60 : decode cX6_correct 60 = .ok (.if_icmp .ne 43, 3) := by decide +kernel
theorem dX6_correct_63 : decode cX6_correct 63 = .ok (.aload_n 0, 1) := by decide +kernel
theorem dX6_correct_64 : decode cX6_correct 64 = .ok (.getfield 7, 3) := by decide +kernel
theorem dX6_correct_67 : decode cX6_correct 67 = .ok (.bipush 24, 2) := by decide +kernel
theorem dX6_correct_69 : decode cX6_correct 69 = .ok (.iload_n 2, 1) := by decide +kernel
theorem dX6_correct_70 : decode cX6_correct 70 = .ok (.imul, 1) := by decide +kernel
theorem dX6_correct_71 : decode cX6_correct 71 = .ok (.iload 4, 2) := by decide +kernel
theorem dX6_correct_73 : decode cX6_correct 73 = .ok (.iadd, 1) := by decide +kernel
theorem dX6_correct_74 : decode cX6_correct 74 = .ok (.iaload, 1) := by decide +kernel
theorem dX6_correct_75 : decode cX6_correct 75 = .ok (.aload_n 0, 1) := by decide +kernel
theorem dX6_correct_76 : decode cX6_correct 76 = .ok (.getfield 7, 3) := by decide +kernel
theorem dX6_correct_79 : decode cX6_correct 79 = .ok (.bipush 24, 2) := by decide +kernel
theorem dX6_correct_81 : decode cX6_correct 81 = .ok (.iload_n 3, 1) := by decide +kernel
theorem dX6_correct_82 : decode cX6_correct 82 = .ok (.imul, 1) := by decide +kernel
theorem dX6_correct_83 : decode cX6_correct 83 = .ok (.iload 4, 2) := by decide +kernel
theorem dX6_correct_85 : decode cX6_correct 85 = .ok (.iadd, 1) := by decide +kernel
theorem dX6_correct_86 : decode cX6_correct 86 = .ok (.iaload, 1) := by decide +kernel
theorem dX6_correct_87 : decode cX6_correct 87 = .ok (.if_icmp .eq 16, 3) := by decide +kernel
theorem dX6_correct_90 : decode cX6_correct 90 = .ok (.aload_n 0, 1) := by decide +kernel
theorem dX6_correct_91 : decode cX6_correct 91 = .ok (.getfield 82, 3) := by decide +kernel
theorem dX6_correct_94 : decode cX6_correct 94 = .ok (.bipush 60, 2) := by decide +kernel
theorem dX6_correct_96 : decode cX6_correct 96 = .ok (.if_icmp .ge 7, 3) := by decide +kernel
theorem dX6_correct_99 : decode cX6_correct 99 = .ok (.iconst 1, 1) := by decide +kernel
theorem dX6_correct_100 : decode cX6_correct 100 = .ok (.goto 4, 3) := by decide +kernel
theorem dX6_correct_103 : decode cX6_correct 103 = .ok (.iconst 0, 1) := by decide +kernel
theorem dX6_correct_104 : decode cX6_correct 104 = .ok (.istore 6, 2) := by decide +kernel
theorem dX6_correct_106 : decode cX6_correct 106 = .ok (.aload_n 0, 1) := by decide +kernel
theorem dX6_correct_107 : decode cX6_correct 107 = .ok (.iload 5, 2) := by decide +kernel
theorem dX6_correct_109 : decode cX6_correct 109 = .ok (.iload 6, 2) := by decide +kernel
theorem dX6_correct_111 : decode cX6_correct 111 = .ok (.iconst 1, 1) := by decide +kernel
theorem dX6_correct_112 : decode cX6_correct 112 = .ok (.invokevirtual 95, 3) := by decide +kernel
theorem dX6_correct_115 : decode cX6_correct 115 = .ok (.ifCond .ne 5, 3) := by decide +kernel
theorem dX6_correct_118 : decode cX6_correct 118 = .ok (.iconst 0, 1) := by decide +kernel
theorem dX6_correct_119 : decode cX6_correct 119 = .ok (.ireturn, 1) := by decide +kernel
theorem dX6_correct_120 : decode cX6_correct 120 = .ok (.aload_n 0, 1) := by decide +kernel
theorem dX6_correct_121 : decode cX6_correct 121 = .ok (.getfield 36, 3) := by decide +kernel
theorem dX6_correct_124 : decode cX6_correct 124 = .ok (.aload_n 0, 1) := by decide +kernel
theorem dX6_correct_125 : decode cX6_correct 125 = .ok (.getfield 82, 3) := by decide +kernel
theorem dX6_correct_128 : decode cX6_correct 128 = .ok (.iload 4, 2) := by decide +kernel
theorem dX6_correct_130 : decode cX6_correct 130 = .ok (.iastore, 1) := by decide +kernel
theorem dX6_correct_131 : decode cX6_correct 131 = .ok (.aload_n 0, 1) := by decide +kernel
theorem dX6_correct_132 : decode cX6_correct 132 = .ok (.getfield 39, 3) := by decide +kernel
theorem dX6_correct_135 : decode cX6_correct 135 = .ok (.aload_n 0, 1) := by decide +kernel
theorem dX6_correct_136 : decode cX6_correct 136 = .ok (.getfield 82, 3) := by decide +kernel
theorem dX6_correct_139 : decode cX6_correct 139 = .ok (.aload_n 0, 1) := by decide +kernel
theorem dX6_correct_140 : decode cX6_correct 140 = .ok (.getfield 7, 3) := by decide +kernel
theorem dX6_correct_143 : decode cX6_correct 143 = .ok (.bipush 24, 2) := by decide +kernel
theorem dX6_correct_145 : decode cX6_correct 145 = .ok (.iload_n 2, 1) := by decide +kernel
theorem dX6_correct_146 : decode cX6_correct 146 = .ok (.imul, 1) := by decide +kernel
theorem dX6_correct_147 : decode cX6_correct 147 = .ok (.iload 4, 2) := by decide +kernel
theorem dX6_correct_149 : decode cX6_correct 149 = .ok (.iadd, 1) := by decide +kernel
theorem dX6_correct_150 : decode cX6_correct 150 = .ok (.iaload, 1) := by decide +kernel
theorem dX6_correct_151 : decode cX6_correct 151 = .ok (.iastore, 1) := by decide +kernel
theorem dX6_correct_152 : decode cX6_correct 152 = .ok (.aload_n 0, 1) := by decide +kernel
theorem dX6_correct_153 : decode cX6_correct 153 = .ok (.getfield 42, 3) := by decide +kernel
theorem dX6_correct_156 : decode cX6_correct 156 = .ok (.aload_n 0, 1) := by decide +kernel
theorem dX6_correct_157 : decode cX6_correct 157 = .ok (.getfield 82, 3) := by decide +kernel
theorem dX6_correct_160 : decode cX6_correct 160 = .ok (.aload_n 0, 1) := by decide +kernel
theorem dX6_correct_161 : decode cX6_correct 161 = .ok (.getfield 7, 3) := by decide +kernel
theorem dX6_correct_164 : decode cX6_correct 164 = .ok (.bipush 24, 2) := by decide +kernel
theorem dX6_correct_166 : decode cX6_correct 166 = .ok (.iload_n 3, 1) := by decide +kernel
theorem dX6_correct_167 : decode cX6_correct 167 = .ok (.imul, 1) := by decide +kernel
theorem dX6_correct_168 : decode cX6_correct 168 = .ok (.iload 4, 2) := by decide +kernel
theorem dX6_correct_170 : decode cX6_correct 170 = .ok (.iadd, 1) := by decide +kernel
theorem dX6_correct_171 : decode cX6_correct 171 = .ok (.iaload, 1) := by decide +kernel
theorem dX6_correct_172 : decode cX6_correct 172 = .ok (.iastore, 1) := by decide +kernel
theorem dX6_correct_173 : decode cX6_correct 173 = .ok (.aload_n 0, 1) := by decide +kernel
theorem dX6_correct_174 : decode cX6_correct 174 = .ok (.getfield 45, 3) := by decide +kernel
theorem dX6_correct_177 : decode cX6_correct 177 = .ok (.bipush 60, 2) := by decide +kernel
theorem dX6_correct_179 : decode cX6_correct 179 = .ok (.iload_n 1, 1) := by decide +kernel
theorem dX6_correct_180 : decode cX6_correct 180 = .ok (.imul, 1) := by decide +kernel
theorem dX6_correct_181 : decode cX6_correct 181 = .ok (.aload_n 0, 1) := by decide +kernel
theorem dX6_correct_182 : decode cX6_correct 182 = .ok (.getfield 82, 3) := by decide +kernel
theorem dX6_correct_185 : decode cX6_correct 185 = .ok (.iadd, 1) := by decide +kernel
theorem dX6_correct_186 : decode cX6_correct 186 = .ok (.iconst 1, 1) := by decide +kernel
theorem dX6_correct_187 : decode cX6_correct 187 = .ok (.bastore, 1) := by decide +kernel
theorem dX6_correct_188 : decode cX6_correct 188 = .ok (.aload_n 0, 1) := by decide +kernel
theorem dX6_correct_189 : decode cX6_correct 189 = .ok (.getfield 7, 3) := by decide +kernel
theorem dX6_correct_192 : decode cX6_correct 192 = .ok (.bipush 24, 2) := by decide +kernel
theorem dX6_correct_194 : decode cX6_correct 194 = .ok (.iload_n 2, 1) := by decide +kernel
theorem dX6_correct_195 : decode cX6_correct 195 = .ok (.imul, 1) := by decide +kernel
theorem dX6_correct_196 : decode cX6_correct 196 = .ok (.iload 4, 2) := by decide +kernel
theorem dX6_correct_198 : decode cX6_correct 198 = .ok (.iadd, 1) := by decide +kernel
theorem dX6_correct_199 : decode cX6_correct 199 = .ok (.aload_n 0, 1) := by decide +kernel
theorem dX6_correct_200 : decode cX6_correct 200 = .ok (.getfield 42, 3) := by decide +kernel
theorem dX6_correct_203 : decode cX6_correct 203 = .ok (.aload_n 0, 1) := by decide +kernel
theorem dX6_correct_204 : decode cX6_correct 204 = .ok (.getfield 82, 3) := by decide +kernel
theorem dX6_correct_207 : decode cX6_correct 207 = .ok (.iaload, 1) := by decide +kernel
theorem dX6_correct_208 : decode cX6_correct 208 = .ok (.iastore, 1) := by decide +kernel
theorem dX6_correct_209 : decode cX6_correct 209 = .ok (.aload_n 0, 1) := by decide +kernel
theorem dX6_correct_210 : decode cX6_correct 210 = .ok (.dup, 1) := by decide +kernel
theorem dX6_correct_211 : decode cX6_correct 211 = .ok (.getfield 82, 3) := by decide +kernel
theorem dX6_correct_214 : decode cX6_correct 214 = .ok (.iconst 1, 1) := by decide +kernel
theorem dX6_correct_215 : decode cX6_correct 215 = .ok (.iadd, 1) := by decide +kernel
theorem dX6_correct_216 : decode cX6_correct 216 = .ok (.putfield 82, 3) := by decide +kernel
theorem dX6_correct_219 : decode cX6_correct 219 = .ok (.aload_n 0, 1) := by decide +kernel
theorem dX6_correct_220 : decode cX6_correct 220 = .ok (.getfield 82, 3) := by decide +kernel
theorem dX6_correct_223 : decode cX6_correct 223 = .ok (.iconst 1, 1) := by decide +kernel
theorem dX6_correct_224 : decode cX6_correct 224 = .ok (.isub, 1) := by decide +kernel
theorem dX6_correct_225 : decode cX6_correct 225 = .ok (.ireturn, 1) := by decide +kernel
set_option maxRecDepth 20000 in
theorem ggX6_workIn_X6_isHouse : GoodIn wsX6_workIn wsX6_isHouse := goodIn_r _ [11, 12, 13, 10, 14] (by decide +kernel) (by decide +kernel)
set_option maxRecDepth 20000 in
theorem gX6_workIn_X6_isHouse : GoodIn wsX6_workIn (va_wsS RX6 105 yX6_isHouse wsX6_isHouse) := goodIn_app (goodIn_of _ (by decide +kernel)) ggX6_workIn_X6_isHouse
set_option maxRecDepth 20000 in
theorem ggX6_workIn_X6_isCopy : GoodIn wsX6_workIn wsX6_isCopy := goodIn_r _ [18, 19, 12, 13, 10, 14, 25, 26, 27, 28, 29, 30, 31, 32, 33, 34, 35, 36, 37, 38, 39, 40, 41, 42, 43, 44, 45, 46, 47, 48, 49, 50] (by decide +kernel) (by decide +kernel)
set_option maxRecDepth 20000 in
theorem gX6_workIn_X6_isCopy : GoodIn wsX6_workIn (wsV RX6 99 RX6 yX6_isCopy wsX6_isCopy) := goodIn_app (goodIn_of _ (by decide +kernel)) ggX6_workIn_X6_isCopy
set_option maxRecDepth 20000 in
theorem ggX6_workIn_X6_goes : GoodIn wsX6_workIn wsX6_goes := goodIn_r _ [23, 24, 25, 26, 27, 28, 29, 30, 31, 32, 33, 34, 35, 36, 37, 38, 39, 40, 41, 42, 43, 44, 45, 46, 47, 48, 49, 50] (by decide +kernel) (by decide +kernel)
set_option maxRecDepth 20000 in
theorem gX6_workIn_X6_goes : GoodIn wsX6_workIn (wsV RX6 95 RX6 yX6_goes wsX6_goes) := goodIn_app (goodIn_of _ (by decide +kernel)) ggX6_workIn_X6_goes
theorem dX6_workIn_0 : decode cX6_workIn 0 = .ok (.iload_n 1, 1) := by decide +kernel
theorem dX6_workIn_1 : decode cX6_workIn 1 = .ok (.invokestatic 105, 3) := by decide +kernel
theorem dX6_workIn_4 : decode cX6_workIn 4 = .ok (.ifCond .eq 15, 3) := by decide +kernel
theorem dX6_workIn_7 : decode cX6_workIn 7 = .ok (.aload_n 0, 1) := by decide +kernel
theorem dX6_workIn_8 : decode cX6_workIn 8 = .ok (.iload_n 2, 1) := by decide +kernel
theorem dX6_workIn_9 : decode cX6_workIn 9 = .ok (.invokevirtual 99, 3) := by decide +kernel
theorem dX6_workIn_12 : decode cX6_workIn 12 = .ok (.ifCond .eq 7, 3) := by decide +kernel
theorem dX6_workIn_15 : decode cX6_workIn 15 = .ok (.iconst 1, 1) := by decide +kernel
theorem dX6_workIn_16 : decode cX6_workIn 16 = .ok (.goto 4, 3) := by decide +kernel
theorem dX6_workIn_19 : decode cX6_workIn 19 = .ok (.iconst 0, 1) := by decide +kernel
theorem dX6_workIn_20 : decode cX6_workIn 20 = .ok (.istore_n 3, 1) := by decide +kernel
theorem dX6_workIn_21 : decode cX6_workIn 21 = .ok (.aload_n 0, 1) := by decide +kernel
theorem dX6_workIn_22 : decode cX6_workIn 22 = .ok (.iload_n 3, 1) := by decide +kernel
theorem dX6_workIn_23 : decode cX6_workIn 23 = .ok (.iload_n 3, 1) := by decide +kernel
theorem dX6_workIn_24 : decode cX6_workIn 24 = .ok (.ifCond .eq 17, 3) := by decide +kernel
theorem dX6_workIn_27 : decode cX6_workIn 27 = .ok (.aload_n 0, 1) := by decide +kernel
theorem dX6_workIn_28 : decode cX6_workIn 28 = .ok (.getfield 23, 3) := by decide +kernel
theorem dX6_workIn_31 : decode cX6_workIn 31 = .ok (.iload_n 2, 1) := by decide +kernel
theorem dX6_workIn_32 : decode cX6_workIn 32 = .ok (.iaload, 1) := by decide +kernel
theorem dX6_workIn_33 : decode cX6_workIn 33 = .ok (.iload_n 1, 1) := by decide +kernel
theorem dX6_workIn_34 : decode cX6_workIn 34 = .ok (.if_icmp .ne 7, 3) := by decide +kernel
theorem dX6_workIn_37 : decode cX6_workIn 37 = .ok (.iconst 1, 1) := by decide +kernel
theorem dX6_workIn_38 : decode cX6_workIn 38 = .ok (.goto 4, 3) := by decide +kernel
theorem dX6_workIn_41 : decode cX6_workIn 41 = .ok (.iconst 0, 1) := by decide +kernel
theorem dX6_workIn_42 : decode cX6_workIn 42 = .ok (.iconst 1, 1) := by decide +kernel
theorem dX6_workIn_43 : decode cX6_workIn 43 = .ok (.invokevirtual 95, 3) := by decide +kernel
theorem dX6_workIn_46 : decode cX6_workIn 46 = .ok (.ifCond .ne 5, 3) := by decide +kernel
theorem dX6_workIn_49 : decode cX6_workIn 49 = .ok (.iconst 0, 1) := by decide +kernel
theorem dX6_workIn_50 : decode cX6_workIn 50 = .ok (.ireturn, 1) := by decide +kernel
theorem dX6_workIn_51 : decode cX6_workIn 51 = .ok (.iconst 0, 1) := by decide +kernel
theorem dX6_workIn_52 : decode cX6_workIn 52 = .ok (.istore 4, 2) := by decide +kernel
theorem dX6_workIn_54 : decode cX6_workIn 54 = .ok (.iconst 0, 1) := by decide +kernel
theorem dX6_workIn_55 : decode cX6_workIn 55 = .ok (.istore 5, 2) := by decide +kernel
theorem dX6_workIn_57 : decode cX6_workIn 57 = .ok (.iload 5, 2) := by decide +kernel
theorem dX6_workIn_59 : decode cX6_workIn 59 = .ok (.aload_n 0, 1) := by decide +kernel
theorem dX6_workIn_60 : decode cX6_workIn 60 = .ok (.getfield 82, 3) := by decide +kernel
theorem dX6_workIn_63 : decode cX6_workIn 63 = .ok (.if_icmp .ge 106, 3) := by decide +kernel
theorem dX6_workIn_66 : decode cX6_workIn 66 = .ok (.bipush 24, 2) := by decide +kernel
theorem dX6_workIn_68 : decode cX6_workIn 68 = .ok (.iload_n 2, 1) := by decide +kernel
theorem dX6_workIn_69 : decode cX6_workIn 69 = .ok (.imul, 1) := by decide +kernel
theorem dX6_workIn_70 : decode cX6_workIn 70 = .ok (.aload_n 0, 1) := by decide +kernel
theorem dX6_workIn_71 : decode cX6_workIn 71 = .ok (.getfield 36, 3) := by decide +kernel
theorem dX6_workIn_74 : decode cX6_workIn 74 = .ok (.iload 5, 2) := by decide +kernel
theorem dX6_workIn_76 : decode cX6_workIn 76 = .ok (.iaload, 1) := by decide +kernel
theorem dX6_workIn_77 : decode cX6_workIn 77 = .ok (.iadd, 1) := by decide +kernel
theorem dX6_workIn_78 : decode cX6_workIn 78 = .ok (.istore 6, 2) := by decide +kernel
theorem dX6_workIn_80 : decode cX6_workIn 80 = .ok (.aload_n 0, 1) := by decide +kernel
theorem dX6_workIn_81 : decode cX6_workIn 81 = .ok (.getfield 45, 3) := by decide +kernel
theorem dX6_workIn_84 : decode cX6_workIn 84 = .ok (.bipush 60, 2) := by decide +kernel
theorem dX6_workIn_86 : decode cX6_workIn 86 = .ok (.iload_n 1, 1) := by decide +kernel
theorem dX6_workIn_87 : decode cX6_workIn 87 = .ok (.imul, 1) := by decide +kernel
theorem dX6_workIn_88 : decode cX6_workIn 88 = .ok (.iload 5, 2) := by decide +kernel
theorem dX6_workIn_90 : decode cX6_workIn 90 = .ok (.iadd, 1) := by decide +kernel
theorem dX6_workIn_91 : decode cX6_workIn 91 = .ok (.baload, 1) := by decide +kernel
theorem dX6_workIn_92 : decode cX6_workIn 92 = .ok (.ifCond .eq 24, 3) := by decide +kernel
theorem dX6_workIn_95 : decode cX6_workIn 95 = .ok (.aload_n 0, 1) := by decide +kernel
theorem dX6_workIn_96 : decode cX6_workIn 96 = .ok (.getfield 7, 3) := by decide +kernel
theorem dX6_workIn_99 : decode cX6_workIn 99 = .ok (.iload 6, 2) := by decide +kernel
theorem dX6_workIn_101 : decode cX6_workIn 101 = .ok (.iaload, 1) := by decide +kernel
theorem dX6_workIn_102 : decode cX6_workIn 102 = .ok (.aload_n 0, 1) := by decide +kernel
theorem dX6_workIn_103 : decode cX6_workIn 103 = .ok (.getfield 39, 3) := by decide +kernel
theorem dX6_workIn_106 : decode cX6_workIn 106 = .ok (.iload 5, 2) := by decide +kernel
theorem dX6_workIn_108 : decode cX6_workIn 108 = .ok (.iaload, 1) := by decide +kernel
theorem dX6_workIn_109 : decode cX6_workIn 109 = .ok (.if_icmp .ne 7, 3) := by decide +kernel
theorem dX6_workIn_112 : decode cX6_workIn 112 = .ok (.iconst 1, 1) := by decide +kernel
theorem dX6_workIn_113 : decode cX6_workIn 113 = .ok (.goto 4, 3) := by decide +kernel
theorem dX6_workIn_116 : decode cX6_workIn 116 = .ok (.iconst 0, 1) := by decide +kernel
theorem dX6_workIn_117 : decode cX6_workIn 117 = .ok (.istore 7, 2) := by decide +kernel
theorem dX6_workIn_119 : decode cX6_workIn 119 = .ok (.aload_n 0, 1) := by decide +kernel
theorem dX6_workIn_120 : decode cX6_workIn 120 = .ok (.getfield 7, 3) := by decide +kernel
theorem dX6_workIn_123 : decode cX6_workIn 123 = .ok (.iload 6, 2) := by decide +kernel
theorem dX6_workIn_125 : decode cX6_workIn 125 = .ok (.iload 7, 2) := by decide +kernel
theorem dX6_workIn_127 : decode cX6_workIn 127 = .ok (.ifCond .eq 13, 3) := by decide +kernel
theorem dX6_workIn_130 : decode cX6_workIn 130 = .ok (.aload_n 0, 1) := by decide +kernel
theorem dX6_workIn_131 : decode cX6_workIn 131 = .ok (.getfield 42, 3) := by decide +kernel
theorem dX6_workIn_134 : decode cX6_workIn 134 = .ok (.iload 5, 2) := by decide +kernel
theorem dX6_workIn_136 : decode cX6_workIn 136 = .ok (.iaload, 1) := by decide +kernel
theorem dX6_workIn_137 : decode cX6_workIn 137 = .ok (.goto 10, 3) := by decide +kernel
theorem dX6_workIn_140 : decode cX6_workIn 140 = .ok (.aload_n 0, 1) := by decide +kernel
theorem dX6_workIn_141 : decode cX6_workIn 141 = .ok (.getfield 7, 3) := by decide +kernel
theorem dX6_workIn_144 : decode cX6_workIn 144 = .ok (.iload 6, 2) := by decide +kernel
theorem dX6_workIn_146 : decode cX6_workIn 146 = .ok (.iaload, 1) := by decide +kernel
theorem dX6_workIn_147 : decode cX6_workIn 147 = .ok (.iastore, 1) := by decide +kernel
theorem dX6_workIn_148 : decode cX6_workIn 148 = .ok (.iload 4, 2) := by decide +kernel
theorem dX6_workIn_150 : decode cX6_workIn 150 = .ok (.iload 7, 2) := by decide +kernel
theorem dX6_workIn_152 : decode cX6_workIn 152 = .ok (.ifCond .eq 7, 3) := by decide +kernel
theorem dX6_workIn_155 : decode cX6_workIn 155 = .ok (.iconst 1, 1) := by decide +kernel
theorem dX6_workIn_156 : decode cX6_workIn 156 = .ok (.goto 4, 3) := by decide +kernel
theorem dX6_workIn_159 : decode cX6_workIn 159 = .ok (.iconst 0, 1) := by decide +kernel
theorem dX6_workIn_160 : decode cX6_workIn 160 = .ok (.iadd, 1) := by decide +kernel
theorem dX6_workIn_161 : decode cX6_workIn 161 = .ok (.istore 4, 2) := by decide +kernel
theorem dX6_workIn_163 : decode cX6_workIn 163 = .ok (.iinc 5 1, 3) := by decide +kernel
theorem dX6_workIn_166 : decode cX6_workIn 166 = .ok (.goto (-109), 3) := by decide +kernel
theorem dX6_workIn_169 : decode cX6_workIn 169 = .ok (.iload 4, 2) := by decide +kernel
theorem dX6_workIn_171 : decode cX6_workIn 171 = .ok (.ireturn, 1) := by decide +kernel
theorem dX6_gets_0 : decode cX6_gets 0 = .ok (.iconst 0, 1) := by decide +kernel
theorem dX6_gets_1 : decode cX6_gets 1 = .ok (.istore_n 3, 1) := by decide +kernel
theorem dX6_gets_2 : decode cX6_gets 2 = .ok (.iload_n 3, 1) := by decide +kernel
theorem dX6_gets_3 : decode cX6_gets 3 = .ok (.aload_n 0, 1) := by decide +kernel
theorem dX6_gets_4 : decode cX6_gets 4 = .ok (.getfield 82, 3) := by decide +kernel
theorem dX6_gets_7 : decode cX6_gets 7 = .ok (.if_icmp .ge 53, 3) := by decide +kernel
theorem dX6_gets_10 : decode cX6_gets 10 = .ok (.aload_n 0, 1) := by decide +kernel
theorem dX6_gets_11 : decode cX6_gets 11 = .ok (.getfield 45, 3) := by decide +kernel
theorem dX6_gets_14 : decode cX6_gets 14 = .ok (.bipush 60, 2) := by decide +kernel
theorem dX6_gets_16 : decode cX6_gets 16 = .ok (.iload_n 1, 1) := by decide +kernel
theorem dX6_gets_17 : decode cX6_gets 17 = .ok (.imul, 1) := by decide +kernel
theorem dX6_gets_18 : decode cX6_gets 18 = .ok (.iload_n 3, 1) := by decide +kernel
theorem dX6_gets_19 : decode cX6_gets 19 = .ok (.iadd, 1) := by decide +kernel
theorem dX6_gets_20 : decode cX6_gets 20 = .ok (.aload_n 0, 1) := by decide +kernel
theorem dX6_gets_21 : decode cX6_gets 21 = .ok (.getfield 45, 3) := by decide +kernel
theorem dX6_gets_24 : decode cX6_gets 24 = .ok (.bipush 60, 2) := by decide +kernel
theorem dX6_gets_26 : decode cX6_gets 26 = .ok (.iload_n 1, 1) := by decide +kernel
theorem dX6_gets_27 : decode cX6_gets 27 = .ok (.imul, 1) := by decide +kernel
theorem dX6_gets_28 : decode cX6_gets 28 = .ok (.iload_n 3, 1) := by decide +kernel
theorem dX6_gets_29 : decode cX6_gets 29 = .ok (.iadd, 1) := by decide +kernel
theorem dX6_gets_30 : decode cX6_gets 30 = .ok (.baload, 1) := by decide +kernel
theorem dX6_gets_31 : decode cX6_gets 31 = .ok (.ifCond .ne 17, 3) := by decide +kernel
theorem dX6_gets_34 : decode cX6_gets 34 = .ok (.aload_n 0, 1) := by decide +kernel
theorem dX6_gets_35 : decode cX6_gets 35 = .ok (.getfield 45, 3) := by decide +kernel
theorem dX6_gets_38 : decode cX6_gets 38 = .ok (.bipush 60, 2) := by decide +kernel
theorem dX6_gets_40 : decode cX6_gets 40 = .ok (.iload_n 2, 1) := by decide +kernel
theorem dX6_gets_41 : decode cX6_gets 41 = .ok (.imul, 1) := by decide +kernel
theorem dX6_gets_42 : decode cX6_gets 42 = .ok (.iload_n 3, 1) := by decide +kernel
theorem dX6_gets_43 : decode cX6_gets 43 = .ok (.iadd, 1) := by decide +kernel
theorem dX6_gets_44 : decode cX6_gets 44 = .ok (.baload, 1) := by decide +kernel
theorem dX6_gets_45 : decode cX6_gets 45 = .ok (.ifCond .eq 7, 3) := by decide +kernel
theorem dX6_gets_48 : decode cX6_gets 48 = .ok (.iconst 1, 1) := by decide +kernel
theorem dX6_gets_49 : decode cX6_gets 49 = .ok (.goto 4, 3) := by decide +kernel
theorem dX6_gets_52 : decode cX6_gets 52 = .ok (.iconst 0, 1) := by decide +kernel
theorem dX6_gets_53 : decode cX6_gets 53 = .ok (.bastore, 1) := by decide +kernel
theorem dX6_gets_54 : decode cX6_gets 54 = .ok (.iinc 3 1, 3) := by decide +kernel
theorem dX6_gets_57 : decode cX6_gets 57 = .ok (.goto (-55), 3) := by decide +kernel
theorem dX6_gets_60 : decode cX6_gets 60 = .ok (.return_, 1) := by decide +kernel
set_option maxRecDepth 20000 in
theorem ggX6_lend_X6_isCopy : GoodIn wsX6_lend wsX6_isCopy := goodIn_r _ [15, 16, 17, 18, 14, 19, 34, 35, 36, 37, 38, 39, 40, 41, 42, 43, 44, 45, 46, 47, 48, 49, 50, 51, 52, 53, 54, 55, 56, 57, 58, 59] (by decide +kernel) (by decide +kernel)
set_option maxRecDepth 20000 in
theorem gX6_lend_X6_isCopy : GoodIn wsX6_lend (wsV RX6 99 RX6 yX6_isCopy wsX6_isCopy) := goodIn_app (goodIn_of _ (by decide +kernel)) ggX6_lend_X6_isCopy
set_option maxRecDepth 20000 in
theorem ggX6_lend_X6_isHouse : GoodIn wsX6_lend wsX6_isHouse := goodIn_r _ [22, 17, 18, 14, 19] (by decide +kernel) (by decide +kernel)
set_option maxRecDepth 20000 in
theorem gX6_lend_X6_isHouse : GoodIn wsX6_lend (va_wsS RX6 105 yX6_isHouse wsX6_isHouse) := goodIn_app (goodIn_of _ (by decide +kernel)) ggX6_lend_X6_isHouse
set_option maxRecDepth 20000 in
theorem ggX6_lend_X6_in : GoodIn wsX6_lend wsX6_in := goodIn_r _ [19] (by decide +kernel) (by decide +kernel)
set_option maxRecDepth 20000 in
theorem gX6_lend_X6_in : GoodIn wsX6_lend (va_wsS RX6 78 yX6_in wsX6_in) := goodIn_app (goodIn_of _ (by decide +kernel)) ggX6_lend_X6_in
set_option maxRecDepth 20000 in
theorem ggX6_lend_X6_goes : GoodIn wsX6_lend wsX6_goes := goodIn_r _ [26, 27, 34, 35, 36, 37, 38, 39, 40, 41, 42, 43, 44, 45, 46, 47, 48, 49, 50, 51, 52, 53, 54, 55, 56, 57, 58, 59] (by decide +kernel) (by decide +kernel)
set_option maxRecDepth 20000 in
theorem gX6_lend_X6_goes : GoodIn wsX6_lend (wsV RX6 95 RX6 yX6_goes wsX6_goes) := goodIn_app (goodIn_of _ (by decide +kernel)) ggX6_lend_X6_goes
set_option maxRecDepth 20000 in
theorem ggX6_lend_X6_gets : GoodIn wsX6_lend wsX6_gets := goodIn_r _ [31, 32, 33, 34, 35, 36, 37, 38, 39, 40, 41, 42, 43, 44, 45, 46, 47, 48, 49, 50, 51, 52, 53, 54, 55, 56, 57, 58, 59] (by decide +kernel) (by decide +kernel)
set_option maxRecDepth 20000 in
theorem gX6_lend_X6_gets : GoodIn wsX6_lend (wsV RX6 114 RX6 yX6_gets wsX6_gets) := goodIn_app (goodIn_of _ (by decide +kernel)) ggX6_lend_X6_gets
theorem dX6_lend_0 : decode cX6_lend 0 = .ok (.aload_n 0, 1) := by decide +kernel
theorem dX6_lend_1 : decode cX6_lend 1 = .ok (.iload_n 1, 1) := by decide +kernel
theorem dX6_lend_2 : decode cX6_lend 2 = .ok (.invokevirtual 99, 3) := by decide +kernel
theorem dX6_lend_5 : decode cX6_lend 5 = .ok (.ifCond .eq 14, 3) := by decide +kernel
theorem dX6_lend_8 : decode cX6_lend 8 = .ok (.iload_n 2, 1) := by decide +kernel
theorem dX6_lend_9 : decode cX6_lend 9 = .ok (.invokestatic 105, 3) := by decide +kernel
theorem dX6_lend_12 : decode cX6_lend 12 = .ok (.ifCond .eq 7, 3) := by decide +kernel
theorem dX6_lend_15 : decode cX6_lend 15 = .ok (.iconst 1, 1) := by decide +kernel
theorem dX6_lend_16 : decode cX6_lend 16 = .ok (.goto 4, 3) := by decide +kernel
theorem dX6_lend_19 : decode cX6_lend 19 = .ok (.iconst 0, 1) := by decide +kernel
theorem dX6_lend_20 : decode cX6_lend 20 = .ok (.istore 5, 2) := by decide +kernel
theorem dX6_lend_22 : decode cX6_lend 22 = .ok (.iload_n 3, 1) := by decide +kernel
theorem dX6_lend_23 : decode cX6_lend 23 = .ok (.iconst 1, 1) := by decide +kernel
theorem dX6_lend_24 : decode cX6_lend 24 = .ok (.bipush 100, 2) := by decide +kernel
theorem dX6_lend_26 : decode cX6_lend 26 = .ok (.invokestatic 78, 3) := by decide +kernel
theorem dX6_lend_29 : decode cX6_lend 29 = .ok (.ifCond .eq 18, 3) := by decide +kernel
theorem dX6_lend_32 : decode cX6_lend 32 = .ok (.iload 4, 2) := by decide +kernel
theorem dX6_lend_34 : decode cX6_lend 34 = .ok (.iconst 0, 1) := by decide +kernel
theorem dX6_lend_35 : decode cX6_lend 35 = .ok (.bipush 50, 2) := by decide +kernel
theorem dX6_lend_37 : decode cX6_lend 37 = .ok (.invokestatic 78, 3) := by decide +kernel
theorem dX6_lend_40 : decode cX6_lend 40 = .ok (.ifCond .eq 7, 3) := by decide +kernel
theorem dX6_lend_43 : decode cX6_lend 43 = .ok (.iconst 1, 1) := by decide +kernel
theorem dX6_lend_44 : decode cX6_lend 44 = .ok (.goto 4, 3) := by decide +kernel
theorem dX6_lend_47 : decode cX6_lend 47 = .ok (.iconst 0, 1) := by decide +kernel
theorem dX6_lend_48 : decode cX6_lend 48 = .ok (.istore 6, 2) := by decide +kernel
theorem dX6_lend_50 : decode cX6_lend 50 = .ok (.iload 5, 2) := by decide +kernel
theorem dX6_lend_52 : decode cX6_lend 52 = .ok (.ifCond .eq 52, 3) := by decide +kernel
theorem dX6_lend_55 : decode cX6_lend 55 = .ok (.aload_n 0, 1) := by decide +kernel
theorem dX6_lend_56 : decode cX6_lend 56 = .ok (.getfield 20, 3) := by decide +kernel
theorem dX6_lend_59 : decode cX6_lend 59 = .ok (.iload_n 1, 1) := by decide +kernel
theorem dX6_lend_60 : decode cX6_lend 60 = .ok (.iaload, 1) := by decide +kernel
theorem dX6_lend_61 : decode cX6_lend 61 = .ok (.iload_n 2, 1) := by decide +kernel
theorem dX6_lend_62 : decode cX6_lend 62 = .ok (.if_icmp .eq 42, 3) := by decide +kernel
theorem dX6_lend_65 : decode cX6_lend 65 = .ok (.aload_n 0, 1) := by decide +kernel
theorem dX6_lend_66 : decode cX6_lend 66 = .ok (.getfield 23, 3) := by decide +kernel
theorem dX6_lend_69 : decode cX6_lend 69 = .ok (.iload_n 1, 1) := by decide +kernel
theorem dX6_lend_70 : decode cX6_lend 70 = .ok (.iaload, 1) := by decide +kernel
theorem dX6_lend_71 : decode cX6_lend 71 = .ok (.aload_n 0, 1) := by decide +kernel
theorem dX6_lend_72 : decode cX6_lend 72 = .ok (.getfield 20, 3) := by decide +kernel
theorem dX6_lend_75 : decode cX6_lend 75 = .ok (.iload_n 1, 1) := by decide +kernel
theorem dX6_lend_76 : decode cX6_lend 76 = .ok (.iaload, 1) := by decide +kernel
theorem dX6_lend_77 : decode cX6_lend 77 = .ok (.if_icmp .ne 27, 3) := by decide +kernel
theorem dX6_lend_80 : decode cX6_lend 80 = .ok (.aload_n 0, 1) := by decide +kernel
theorem dX6_lend_81 : decode cX6_lend 81 = .ok (.getfield 66, 3) := by decide +kernel
theorem dX6_lend_84 : decode cX6_lend 84 = .ok (.iload_n 2, 1) := by decide +kernel
theorem dX6_lend_85 : decode cX6_lend 85 = .ok (.iaload, 1) := by decide +kernel
theorem dX6_lend_86 : decode cX6_lend 86 = .ok (.iload 4, 2) := by decide +kernel
theorem dX6_lend_88 : decode cX6_lend 88 = .ok (.if_icmp .lt 16, 3) := by decide +kernel
theorem dX6_lend_91 : decode cX6_lend 91 = .ok (.aload_n 0, 1) := by decide +kernel
theorem dX6_lend_92 : decode cX6_lend 92 = .ok (.getfield 85, 3) := by decide +kernel
theorem dX6_lend_95 : decode cX6_lend 95 = .ok (.bipush 40, 2) := by decide +kernel
theorem dX6_lend_97 : decode cX6_lend 97 = .ok (.if_icmp .ge 7, 3) := by decide +kernel
theorem dX6_lend_100 : decode cX6_lend 100 = .ok (.iconst 1, 1) := by decide +kernel
theorem dX6_lend_101 : decode cX6_lend 101 = .ok (.goto 4, 3) := by decide +kernel
theorem dX6_lend_104 : decode cX6_lend 104 = .ok (.iconst 0, 1) := by decide +kernel
theorem dX6_lend_105 : decode cX6_lend 105 = .ok (.istore 7, 2) := by decide +kernel
theorem dX6_lend_107 : decode cX6_lend 107 = .ok (.aload_n 0, 1) := by decide +kernel
theorem dX6_lend_108 : decode cX6_lend 108 = .ok (.iload 5, 2) := by decide +kernel
theorem dX6_lend_110 : decode cX6_lend 110 = .ok (.iload 6, 2) := by decide +kernel
theorem dX6_lend_112 : decode cX6_lend 112 = .ok (.iload 7, 2) := by decide +kernel
theorem dX6_lend_114 : decode cX6_lend 114 = .ok (.invokevirtual 95, 3) := by decide +kernel
theorem dX6_lend_117 : decode cX6_lend 117 = .ok (.ifCond .ne 5, 3) := by decide +kernel
theorem dX6_lend_120 : decode cX6_lend 120 = .ok (.iconst 0, 1) := by decide +kernel
theorem dX6_lend_121 : decode cX6_lend 121 = .ok (.ireturn, 1) := by decide +kernel
theorem dX6_lend_122 : decode cX6_lend 122 = .ok (.aload_n 0, 1) := by decide +kernel
theorem dX6_lend_123 : decode cX6_lend 123 = .ok (.getfield 48, 3) := by decide +kernel
theorem dX6_lend_126 : decode cX6_lend 126 = .ok (.aload_n 0, 1) := by decide +kernel
theorem dX6_lend_127 : decode cX6_lend 127 = .ok (.getfield 85, 3) := by decide +kernel
theorem dX6_lend_130 : decode cX6_lend 130 = .ok (.iload_n 1, 1) := by decide +kernel
theorem dX6_lend_131 : decode cX6_lend 131 = .ok (.iastore, 1) := by decide +kernel
theorem dX6_lend_132 : decode cX6_lend 132 = .ok (.aload_n 0, 1) := by decide +kernel
theorem dX6_lend_133 : decode cX6_lend 133 = .ok (.getfield 51, 3) := by decide +kernel
theorem dX6_lend_136 : decode cX6_lend 136 = .ok (.aload_n 0, 1) := by decide +kernel
theorem dX6_lend_137 : decode cX6_lend 137 = .ok (.getfield 85, 3) := by decide +kernel
theorem dX6_lend_140 : decode cX6_lend 140 = .ok (.iload_n 2, 1) := by decide +kernel
theorem dX6_lend_141 : decode cX6_lend 141 = .ok (.iastore, 1) := by decide +kernel
theorem dX6_lend_142 : decode cX6_lend 142 = .ok (.aload_n 0, 1) := by decide +kernel
theorem dX6_lend_143 : decode cX6_lend 143 = .ok (.getfield 54, 3) := by decide +kernel
theorem dX6_lend_146 : decode cX6_lend 146 = .ok (.aload_n 0, 1) := by decide +kernel
theorem dX6_lend_147 : decode cX6_lend 147 = .ok (.getfield 85, 3) := by decide +kernel
theorem dX6_lend_150 : decode cX6_lend 150 = .ok (.aload_n 0, 1) := by decide +kernel
theorem dX6_lend_151 : decode cX6_lend 151 = .ok (.getfield 111, 3) := by decide +kernel
theorem dX6_lend_154 : decode cX6_lend 154 = .ok (.iload_n 3, 1) := by decide +kernel
theorem dX6_lend_155 : decode cX6_lend 155 = .ok (.iadd, 1) := by decide +kernel
theorem dX6_lend_156 : decode cX6_lend 156 = .ok (.iastore, 1) := by decide +kernel
theorem dX6_lend_157 : decode cX6_lend 157 = .ok (.aload_n 0, 1) := by decide +kernel
theorem dX6_lend_158 : decode cX6_lend 158 = .ok (.getfield 57, 3) := by decide +kernel
theorem dX6_lend_161 : decode cX6_lend 161 = .ok (.aload_n 0, 1) := by decide +kernel
theorem dX6_lend_162 : decode cX6_lend 162 = .ok (.getfield 85, 3) := by decide +kernel
theorem dX6_lend_165 : decode cX6_lend 165 = .ok (.iload 4, 2) := by decide +kernel
theorem dX6_lend_167 : decode cX6_lend 167 = .ok (.iastore, 1) := by decide +kernel
theorem dX6_lend_168 : decode cX6_lend 168 = .ok (.aload_n 0, 1) := by decide +kernel
theorem dX6_lend_169 : decode cX6_lend 169 = .ok (.getfield 66, 3) := by decide +kernel
theorem dX6_lend_172 : decode cX6_lend 172 = .ok (.iload_n 2, 1) := by decide +kernel
theorem dX6_lend_173 : decode cX6_lend 173 = .ok (.dup2, 1) := by decide +kernel
theorem dX6_lend_174 : decode cX6_lend 174 = .ok (.iaload, 1) := by decide +kernel
theorem dX6_lend_175 : decode cX6_lend 175 = .ok (.iload 4, 2) := by decide +kernel
theorem dX6_lend_177 : decode cX6_lend 177 = .ok (.isub, 1) := by decide +kernel
theorem dX6_lend_178 : decode cX6_lend 178 = .ok (.iastore, 1) := by decide +kernel
theorem dX6_lend_179 : decode cX6_lend 179 = .ok (.aload_n 0, 1) := by decide +kernel
theorem dX6_lend_180 : decode cX6_lend 180 = .ok (.getfield 69, 3) := by decide +kernel
theorem dX6_lend_183 : decode cX6_lend 183 = .ok (.iload_n 2, 1) := by decide +kernel
theorem dX6_lend_184 : decode cX6_lend 184 = .ok (.dup2, 1) := by decide +kernel
theorem dX6_lend_185 : decode cX6_lend 185 = .ok (.iaload, 1) := by decide +kernel
theorem dX6_lend_186 : decode cX6_lend 186 = .ok (.iload 4, 2) := by decide +kernel
theorem dX6_lend_188 : decode cX6_lend 188 = .ok (.iadd, 1) := by decide +kernel
theorem dX6_lend_189 : decode cX6_lend 189 = .ok (.iastore, 1) := by decide +kernel
theorem dX6_lend_190 : decode cX6_lend 190 = .ok (.aload_n 0, 1) := by decide +kernel
theorem dX6_lend_191 : decode cX6_lend 191 = .ok (.getfield 23, 3) := by decide +kernel
theorem dX6_lend_194 : decode cX6_lend 194 = .ok (.iload_n 1, 1) := by decide +kernel
theorem dX6_lend_195 : decode cX6_lend 195 = .ok (.iload_n 2, 1) := by decide +kernel
theorem dX6_lend_196 : decode cX6_lend 196 = .ok (.iastore, 1) := by decide +kernel
theorem dX6_lend_197 : decode cX6_lend 197 = .ok (.aload_n 0, 1) := by decide +kernel
theorem dX6_lend_198 : decode cX6_lend 198 = .ok (.iload_n 2, 1) := by decide +kernel
theorem dX6_lend_199 : decode cX6_lend 199 = .ok (.aload_n 0, 1) := by decide +kernel
theorem dX6_lend_200 : decode cX6_lend 200 = .ok (.getfield 20, 3) := by decide +kernel
theorem dX6_lend_203 : decode cX6_lend 203 = .ok (.iload_n 1, 1) := by decide +kernel
theorem dX6_lend_204 : decode cX6_lend 204 = .ok (.iaload, 1) := by decide +kernel
theorem dX6_lend_205 : decode cX6_lend 205 = .ok (.invokevirtual 114, 3) := by decide +kernel
theorem dX6_lend_208 : decode cX6_lend 208 = .ok (.aload_n 0, 1) := by decide +kernel
theorem dX6_lend_209 : decode cX6_lend 209 = .ok (.dup, 1) := by decide +kernel
theorem dX6_lend_210 : decode cX6_lend 210 = .ok (.getfield 85, 3) := by decide +kernel
theorem dX6_lend_213 : decode cX6_lend 213 = .ok (.iconst 1, 1) := by decide +kernel
theorem dX6_lend_214 : decode cX6_lend 214 = .ok (.iadd, 1) := by decide +kernel
theorem dX6_lend_215 : decode cX6_lend 215 = .ok (.putfield 85, 3) := by decide +kernel
theorem dX6_lend_218 : decode cX6_lend 218 = .ok (.aload_n 0, 1) := by decide +kernel
theorem dX6_lend_219 : decode cX6_lend 219 = .ok (.getfield 85, 3) := by decide +kernel
theorem dX6_lend_222 : decode cX6_lend 222 = .ok (.iconst 1, 1) := by decide +kernel
theorem dX6_lend_223 : decode cX6_lend 223 = .ok (.isub, 1) := by decide +kernel
theorem dX6_lend_224 : decode cX6_lend 224 = .ok (.ireturn, 1) := by decide +kernel
theorem dX6_lateNow_0 : decode cX6_lateNow 0 = .ok (.aload_n 0, 1) := by decide +kernel
theorem dX6_lateNow_1 : decode cX6_lateNow 1 = .ok (.getfield 111, 3) := by decide +kernel
theorem dX6_lateNow_4 : decode cX6_lateNow 4 = .ok (.aload_n 0, 1) := by decide +kernel
theorem dX6_lateNow_5 : decode cX6_lateNow 5 = .ok (.getfield 54, 3) := by decide +kernel
theorem dX6_lateNow_8 : decode cX6_lateNow 8 = .ok (.iload_n 1, 1) := by decide +kernel
theorem dX6_lateNow_9 : decode cX6_lateNow 9 = .ok (.iaload, 1) := by decide +kernel
theorem dX6_lateNow_10 : decode cX6_lateNow 10 = .ok (.if_icmp .le 17, 3) := by decide +kernel
theorem dX6_lateNow_13 : decode cX6_lateNow 13 = .ok (.aload_n 0, 1) := by decide +kernel
theorem dX6_lateNow_14 : decode cX6_lateNow 14 = .ok (.getfield 111, 3) := by decide +kernel
theorem dX6_lateNow_17 : decode cX6_lateNow 17 = .ok (.aload_n 0, 1) := by decide +kernel
theorem dX6_lateNow_18 : decode cX6_lateNow 18 = .ok (.getfield 54, 3) := by decide +kernel
theorem dX6_lateNow_21 : decode cX6_lateNow 21 = .ok (.iload_n 1, 1) := by decide +kernel
theorem dX6_lateNow_22 : decode cX6_lateNow 22 = .ok (.iaload, 1) := by decide +kernel
theorem dX6_lateNow_23 : decode cX6_lateNow 23 = .ok (.isub, 1) := by decide +kernel
theorem dX6_lateNow_24 : decode cX6_lateNow 24 = .ok (.goto 4, 3) := by decide +kernel
theorem dX6_lateNow_27 : decode cX6_lateNow 27 = .ok (.iconst 0, 1) := by decide +kernel
theorem dX6_lateNow_28 : decode cX6_lateNow 28 = .ok (.ireturn, 1) := by decide +kernel
set_option maxRecDepth 20000 in
theorem ggX6_giveBack_X6_isLoan : GoodIn wsX6_giveBack wsX6_isLoan := goodIn_r _ [14, 15, 16, 17, 13, 18, 36, 37, 38, 39, 40, 41, 42, 43, 44, 45, 46, 47, 48, 49, 50, 51, 52, 53, 54, 55, 56, 57, 58, 59, 60, 61] (by decide +kernel) (by decide +kernel)
set_option maxRecDepth 20000 in
theorem gX6_giveBack_X6_isLoan : GoodIn wsX6_giveBack (wsV RX6 118 RX6 yX6_isLoan wsX6_isLoan) := goodIn_app (goodIn_of _ (by decide +kernel)) ggX6_giveBack_X6_isLoan
set_option maxRecDepth 20000 in
theorem ggX6_giveBack_X6_goes : GoodIn wsX6_giveBack wsX6_goes := goodIn_r _ [22, 23, 36, 37, 38, 39, 40, 41, 42, 43, 44, 45, 46, 47, 48, 49, 50, 51, 52, 53, 54, 55, 56, 57, 58, 59, 60, 61] (by decide +kernel) (by decide +kernel)
set_option maxRecDepth 20000 in
theorem gX6_giveBack_X6_goes : GoodIn wsX6_giveBack (wsV RX6 95 RX6 yX6_goes wsX6_goes) := goodIn_app (goodIn_of _ (by decide +kernel)) ggX6_giveBack_X6_goes
set_option maxRecDepth 20000 in
theorem ggX6_giveBack_X6_lateNow : GoodIn wsX6_giveBack wsX6_lateNow := goodIn_r _ [27, 28, 29, 36, 37, 38, 39, 40, 41, 42, 43, 44, 45, 46, 47, 48, 49, 50, 51, 52, 53, 54, 55, 56, 57, 58, 59, 60, 61] (by decide +kernel) (by decide +kernel)
set_option maxRecDepth 20000 in
theorem gX6_giveBack_X6_lateNow : GoodIn wsX6_giveBack (wsV RX6 121 RX6 yX6_lateNow wsX6_lateNow) := goodIn_app (goodIn_of _ (by decide +kernel)) ggX6_giveBack_X6_lateNow
set_option maxRecDepth 20000 in
theorem ggX6_giveBack_X6_gets : GoodIn wsX6_giveBack wsX6_gets := goodIn_r _ [33, 34, 35, 36, 37, 38, 39, 40, 41, 42, 43, 44, 45, 46, 47, 48, 49, 50, 51, 52, 53, 54, 55, 56, 57, 58, 59, 60, 61] (by decide +kernel) (by decide +kernel)
set_option maxRecDepth 20000 in
theorem gX6_giveBack_X6_gets : GoodIn wsX6_giveBack (wsV RX6 114 RX6 yX6_gets wsX6_gets) := goodIn_app (goodIn_of _ (by decide +kernel)) ggX6_giveBack_X6_gets
theorem dX6_giveBack_0 : decode cX6_giveBack 0 = .ok (.aload_n 0, 1) := by decide +kernel
theorem dX6_giveBack_1 : decode cX6_giveBack 1 = .ok (.iload_n 1, 1) := by decide +kernel
theorem dX6_giveBack_2 : decode cX6_giveBack 2 = .ok (.invokevirtual 118, 3) := by decide +kernel
theorem dX6_giveBack_5 : decode cX6_giveBack 5 = .ok (.istore_n 2, 1) := by decide +kernel
theorem dX6_giveBack_6 : decode cX6_giveBack 6 = .ok (.aload_n 0, 1) := by decide +kernel
theorem dX6_giveBack_7 : decode cX6_giveBack 7 = .ok (.iload_n 2, 1) := by decide +kernel
theorem dX6_giveBack_8 : decode cX6_giveBack 8 = .ok (.iload_n 2, 1) := by decide +kernel
theorem dX6_giveBack_9 : decode cX6_giveBack 9 = .ok (.ifCond .eq 16, 3) := by decide +kernel
theorem dX6_giveBack_12 : decode cX6_giveBack 12 = .ok (.aload_n 0, 1) := by decide +kernel
theorem dX6_giveBack_13 : decode cX6_giveBack 13 = .ok (.getfield 63, 3) := by decide +kernel
theorem dX6_giveBack_16 : decode cX6_giveBack 16 = .ok (.iload_n 1, 1) := by decide +kernel
theorem dX6_giveBack_17 : decode cX6_giveBack 17 = .ok (.baload, 1) := by decide +kernel
theorem dX6_giveBack_18 : decode cX6_giveBack 18 = .ok (.ifCond .ne 7, 3) := by decide +kernel
theorem dX6_giveBack_21 : decode cX6_giveBack 21 = .ok (.iconst 1, 1) := by decide +kernel
theorem dX6_giveBack_22 : decode cX6_giveBack 22 = .ok (.goto 4, 3) := by decide +kernel
theorem dX6_giveBack_25 : decode cX6_giveBack 25 = .ok (.iconst 0, 1) := by decide +kernel
theorem dX6_giveBack_26 : decode cX6_giveBack 26 = .ok (.iconst 1, 1) := by decide +kernel
theorem dX6_giveBack_27 : decode cX6_giveBack 27 = .ok (.invokevirtual 95, 3) := by decide +kernel
theorem dX6_giveBack_30 : decode cX6_giveBack 30 = .ok (.ifCond .ne 5, 3) := by decide +kernel
theorem dX6_giveBack_33 : decode cX6_giveBack 33 = .ok (.iconst 0, 1) := by decide +kernel
theorem dX6_giveBack_34 : decode cX6_giveBack 34 = .ok (.ireturn, 1) := by decide +kernel
theorem dX6_giveBack_35 : decode cX6_giveBack 35 = .ok (.aload_n 0, 1) := by decide +kernel
theorem dX6_giveBack_36 : decode cX6_giveBack 36 = .ok (.getfield 57, 3) := by decide +kernel
theorem dX6_giveBack_39 : decode cX6_giveBack 39 = .ok (.iload_n 1, 1) := by decide +kernel
theorem dX6_giveBack_40 : decode cX6_giveBack 40 = .ok (.iaload, 1) := by decide +kernel
theorem dX6_giveBack_41 : decode cX6_giveBack 41 = .ok (.istore_n 3, 1) := by decide +kernel
theorem dX6_giveBack_42 : decode cX6_giveBack 42 = .ok (.aload_n 0, 1) := by decide +kernel
theorem dX6_giveBack_43 : decode cX6_giveBack 43 = .ok (.getfield 51, 3) := by decide +kernel
theorem dX6_giveBack_46 : decode cX6_giveBack 46 = .ok (.iload_n 1, 1) := by decide +kernel
theorem dX6_giveBack_47 : decode cX6_giveBack 47 = .ok (.iaload, 1) := by decide +kernel
theorem dX6_giveBack_48 : decode cX6_giveBack 48 = .ok (.istore 4, 2) := by decide +kernel
theorem dX6_giveBack_50 : decode cX6_giveBack 50 = .ok (.aload_n 0, 1) := by decide +kernel
theorem dX6_giveBack_51 : decode cX6_giveBack 51 = .ok (.getfield 20, 3) := by decide +kernel
theorem dX6_giveBack_54 : decode cX6_giveBack 54 = .ok (.aload_n 0, 1) := by decide +kernel
theorem dX6_giveBack_55 : decode cX6_giveBack 55 = .ok (.getfield 48, 3) := by decide +kernel
theorem dX6_giveBack_58 : decode cX6_giveBack 58 = .ok (.iload_n 1, 1) := by decide +kernel
theorem dX6_giveBack_59 : decode cX6_giveBack 59 = .ok (.iaload, 1) := by decide +kernel
theorem dX6_giveBack_60 : decode cX6_giveBack 60 = .ok (.iaload, 1) := by decide +kernel
theorem dX6_giveBack_61 : decode cX6_giveBack 61 = .ok (.istore 5, 2) := by decide +kernel
theorem dX6_giveBack_63 : decode cX6_giveBack 63 = .ok (.aload_n 0, 1) := by decide +kernel
theorem dX6_giveBack_64 : decode cX6_giveBack 64 = .ok (.getfield 60, 3) := by decide +kernel
theorem dX6_giveBack_67 : decode cX6_giveBack 67 = .ok (.iload_n 1, 1) := by decide +kernel
theorem dX6_giveBack_68 : decode cX6_giveBack 68 = .ok (.aload_n 0, 1) := by decide +kernel
theorem dX6_giveBack_69 : decode cX6_giveBack 69 = .ok (.iload_n 1, 1) := by decide +kernel
theorem dX6_giveBack_70 : decode cX6_giveBack 70 = .ok (.invokevirtual 121, 3) := by decide +kernel
theorem dX6_giveBack_73 : decode cX6_giveBack 73 = .ok (.iastore, 1) := by decide +kernel
theorem dX6_giveBack_74 : decode cX6_giveBack 74 = .ok (.aload_n 0, 1) := by decide +kernel
theorem dX6_giveBack_75 : decode cX6_giveBack 75 = .ok (.getfield 60, 3) := by decide +kernel
theorem dX6_giveBack_78 : decode cX6_giveBack 78 = .ok (.iload_n 1, 1) := by decide +kernel
theorem dX6_giveBack_79 : decode cX6_giveBack 79 = .ok (.iaload, 1) := by decide +kernel
theorem dX6_giveBack_80 : decode cX6_giveBack 80 = .ok (.ifCond .ne 7, 3) := by decide +kernel
theorem dX6_giveBack_83 : decode cX6_giveBack 83 = .ok (.iconst 0, 1) := by decide +kernel
theorem dX6_giveBack_84 : decode cX6_giveBack 84 = .ok (.goto 23, 3) := by decide +kernel
theorem dX6_giveBack_87 : decode cX6_giveBack 87 = .ok (.aload_n 0, 1) := by decide +kernel
theorem dX6_giveBack_88 : decode cX6_giveBack 88 = .ok (.getfield 60, 3) := by decide +kernel
theorem dX6_giveBack_91 : decode cX6_giveBack 91 = .ok (.iload_n 1, 1) := by decide +kernel
theorem dX6_giveBack_92 : decode cX6_giveBack 92 = .ok (.iaload, 1) := by decide +kernel
theorem dX6_giveBack_93 : decode cX6_giveBack 93 = .ok (.bipush 10, 2) := by decide +kernel
theorem dX6_giveBack_95 : decode cX6_giveBack 95 = .ok (.if_icmp .gt 11, 3) := by decide +kernel
theorem dX6_giveBack_98 : decode cX6_giveBack 98 = .ok (.iload_n 3, 1) := by decide +kernel
theorem dX6_giveBack_99 : decode cX6_giveBack 99 = .ok (.iconst 1, 1) := by decide +kernel
theorem dX6_giveBack_100 : decode cX6_giveBack 100 = .ok (.iadd, 1) := by decide +kernel
theorem dX6_giveBack_101 : decode cX6_giveBack 101 = .ok (.iconst 2, 1) := by decide +kernel
theorem dX6_giveBack_102 : decode cX6_giveBack 102 = .ok (.idiv, 1) := by decide +kernel
theorem dX6_giveBack_103 : decode cX6_giveBack 103 = .ok (.goto 4, 3) := by decide +kernel
theorem dX6_giveBack_106 : decode cX6_giveBack 106 = .ok (.iload_n 3, 1) := by decide +kernel
theorem dX6_giveBack_107 : decode cX6_giveBack 107 = .ok (.istore 6, 2) := by decide +kernel
