theorem dX0_init_0 : decode cX0_init 0 = .ok (.aload_n 0, 1) := by decide +kernel
theorem dX0_init_1 : decode cX0_init 1 = .ok (.invokespecial 3, 3) := by decide +kernel
theorem dX0_init_4 : decode cX0_init 4 = .ok (.aload_n 0, 1) := by decide +kernel
theorem dX0_init_5 : decode cX0_init 5 = .ok (.bipush 24, 2) := by decide +kernel
theorem dX0_init_7 : decode cX0_init 7 = .ok (.newarray .int, 2) := by decide +kernel
theorem dX0_init_9 : decode cX0_init 9 = .ok (.putfield 9, 3) := by decide +kernel
theorem dX0_init_12 : decode cX0_init 12 = .ok (.aload_n 0, 1) := by decide +kernel
theorem dX0_init_13 : decode cX0_init 13 = .ok (.iconst 0, 1) := by decide +kernel
theorem dX0_init_14 : decode cX0_init 14 = .ok (.putfield 15, 3) := by decide +kernel
theorem dX0_init_17 : decode cX0_init 17 = .ok (.aload_n 0, 1) := by decide +kernel
theorem dX0_init_18 : decode cX0_init 18 = .ok (.iload_n 1, 1) := by decide +kernel
theorem dX0_init_19 : decode cX0_init 19 = .ok (.putfield 19, 3) := by decide +kernel
theorem dX0_init_22 : decode cX0_init 22 = .ok (.aload_n 0, 1) := by decide +kernel
theorem dX0_init_23 : decode cX0_init 23 = .ok (.aload_n 2, 1) := by decide +kernel
theorem dX0_init_24 : decode cX0_init 24 = .ok (.putfield 23, 3) := by decide +kernel
theorem dX0_init_27 : decode cX0_init 27 = .ok (.aload_n 0, 1) := by decide +kernel
theorem dX0_init_28 : decode cX0_init 28 = .ok (.aload_n 3, 1) := by decide +kernel
theorem dX0_init_29 : decode cX0_init 29 = .ok (.putfield 27, 3) := by decide +kernel
theorem dX0_init_32 : decode cX0_init 32 = .ok (.aload_n 0, 1) := by decide +kernel
theorem dX0_init_33 : decode cX0_init 33 = .ok (.aload_n 3, 1) := by decide +kernel
theorem dX0_init_34 : decode cX0_init 34 = .ok (.putfield 31, 3) := by decide +kernel
theorem dX0_init_37 : decode cX0_init 37 = .ok (.aload_n 0, 1) := by decide +kernel
theorem dX0_init_38 : decode cX0_init 38 = .ok (.iload_n 1, 1) := by decide +kernel
theorem dX0_init_39 : decode cX0_init 39 = .ok (.putfield 34, 3) := by decide +kernel
theorem dX0_init_42 : decode cX0_init 42 = .ok (.aload_n 2, 1) := by decide +kernel
theorem dX0_init_43 : decode cX0_init 43 = .ok (.ifnull 18, 3) := by decide +kernel
theorem dX0_init_46 : decode cX0_init 46 = .ok (.aload_n 2, 1) := by decide +kernel
theorem dX0_init_47 : decode cX0_init 47 = .ok (.getfield 9, 3) := by decide +kernel
theorem dX0_init_50 : decode cX0_init 50 = .ok (.iconst 0, 1) := by decide +kernel
theorem dX0_init_51 : decode cX0_init 51 = .ok (.aload_n 0, 1) := by decide +kernel
theorem dX0_init_52 : decode cX0_init 52 = .ok (.getfield 9, 3) := by decide +kernel
theorem dX0_init_55 : decode cX0_init 55 = .ok (.iconst 0, 1) := by decide +kernel
theorem dX0_init_56 : decode cX0_init 56 = .ok (.bipush 24, 2) := by decide +kernel
theorem dX0_init_58 : decode cX0_init 58 = .ok (.invokestatic 37, 3) := by decide +kernel
theorem dX0_init_61 : decode cX0_init 61 = .ok (.return_, 1) := by decide +kernel
theorem dX0_modelIfTold_0 : decode cX0_modelIfTold 0 = .ok (.aload_n 0, 1) := by decide +kernel
theorem dX0_modelIfTold_1 : decode cX0_modelIfTold 1 = .ok (.getfield 15, 3) := by decide +kernel
theorem dX0_modelIfTold_4 : decode cX0_modelIfTold 4 = .ok (.ifCond .eq 10, 3) := by decide +kernel
theorem dX0_modelIfTold_7 : decode cX0_modelIfTold 7 = .ok (.aload_n 0, 1) := by decide +kernel
theorem dX0_modelIfTold_8 : decode cX0_modelIfTold 8 = .ok (.getfield 23, 3) := by decide +kernel
theorem dX0_modelIfTold_11 : decode cX0_modelIfTold 11 = .ok (.goto 4, 3) := by decide +kernel
theorem dX0_modelIfTold_14 : decode cX0_modelIfTold 14 = .ok (.aconst_null, 1) := by decide +kernel
theorem dX0_modelIfTold_15 : decode cX0_modelIfTold 15 = .ok (.areturn, 1) := by decide +kernel
set_option maxRecDepth 20000 in
theorem ggX0_isKinOf_X0_modelIfTold : GoodIn wsX0_isKinOf wsX0_modelIfTold := goodIn_r _ [5, 6, 7, 13, 14, 15, 16, 17, 18, 19] (by decide +kernel) (by decide +kernel)
set_option maxRecDepth 20000 in
theorem gX0_isKinOf_X0_modelIfTold : GoodIn wsX0_isKinOf (wsV RX0 43 RX0 yX0_modelIfTold wsX0_modelIfTold) := goodIn_app (goodIn_of _ (by decide +kernel)) ggX0_isKinOf_X0_modelIfTold
set_option maxRecDepth 20000 in
theorem ggX0_isKinOf_X0_countSharedWith : GoodIn wsX0_isKinOf wsX0_countSharedWith := goodIn_r _ [11, 12, 13, 14, 15, 16, 17, 18, 19] (by decide +kernel) (by decide +kernel)
set_option maxRecDepth 20000 in
theorem gX0_isKinOf_X0_countSharedWith : GoodIn wsX0_isKinOf (wsV RX0 47 RX0 yX0_countSharedWith wsX0_countSharedWith) := goodIn_app (goodIn_of _ (by decide +kernel)) ggX0_isKinOf_X0_countSharedWith
theorem dX0_isKinOf_0 : decode cX0_isKinOf 0 = .ok (.aload_n 0, 1) := by decide +kernel
theorem dX0_isKinOf_1 : decode cX0_isKinOf 1 = .ok (.invokevirtual 43, 3) := by decide +kernel
theorem dX0_isKinOf_4 : decode cX0_isKinOf 4 = .ok (.aload_n 1, 1) := by decide +kernel
theorem dX0_isKinOf_5 : decode cX0_isKinOf 5 = .ok (.if_acmp .eq 19, 3) := by decide +kernel
theorem dX0_isKinOf_8 : decode cX0_isKinOf 8 = .ok (.aload_n 1, 1) := by decide +kernel
theorem dX0_isKinOf_9 : decode cX0_isKinOf 9 = .ok (.invokevirtual 43, 3) := by decide +kernel
theorem dX0_isKinOf_12 : decode cX0_isKinOf 12 = .ok (.aload_n 0, 1) := by decide +kernel
theorem dX0_isKinOf_13 : decode cX0_isKinOf 13 = .ok (.if_acmp .eq 11, 3) := by decide +kernel
theorem dX0_isKinOf_16 : decode cX0_isKinOf 16 = .ok (.aload_n 0, 1) := by decide +kernel
theorem dX0_isKinOf_17 : decode cX0_isKinOf 17 = .ok (.aload_n 1, 1) := by decide +kernel
theorem dX0_isKinOf_18 : decode cX0_isKinOf 18 = .ok (.invokevirtual 47, 3) := by decide +kernel
theorem dX0_isKinOf_21 : decode cX0_isKinOf 21 = .ok (.ifCond .le 7, 3) := by decide +kernel
theorem dX0_isKinOf_24 : decode cX0_isKinOf 24 = .ok (.iconst 1, 1) := by decide +kernel
theorem dX0_isKinOf_25 : decode cX0_isKinOf 25 = .ok (.goto 4, 3) := by decide +kernel
theorem dX0_isKinOf_28 : decode cX0_isKinOf 28 = .ok (.iconst 0, 1) := by decide +kernel
theorem dX0_isKinOf_29 : decode cX0_isKinOf 29 = .ok (.ireturn, 1) := by decide +kernel
set_option maxRecDepth 20000 in
theorem ggX0_countErrors_X0_countSharedWith : GoodIn wsX0_countErrors wsX0_countSharedWith := goodIn_r _ [5, 6, 7, 8, 9, 10, 11, 12, 13] (by decide +kernel) (by decide +kernel)
set_option maxRecDepth 20000 in
theorem gX0_countErrors_X0_countSharedWith : GoodIn wsX0_countErrors (wsV RX0 47 RX0 yX0_countSharedWith wsX0_countSharedWith) := goodIn_app (goodIn_of _ (by decide +kernel)) ggX0_countErrors_X0_countSharedWith
theorem dX0_countErrors_0 : decode cX0_countErrors 0 = .ok (.aload_n 0, 1) := by decide +kernel
theorem dX0_countErrors_1 : decode cX0_countErrors 1 = .ok (.aload_n 0, 1) := by decide +kernel
theorem dX0_countErrors_2 : decode cX0_countErrors 2 = .ok (.invokevirtual 47, 3) := by decide +kernel
theorem dX0_countErrors_5 : decode cX0_countErrors 5 = .ok (.ireturn, 1) := by decide +kernel
theorem dX0_countSharedWith_0 : decode cX0_countSharedWith 0 = .ok (.iconst 0, 1) := by decide +kernel
theorem dX0_countSharedWith_1 : decode cX0_countSharedWith 1 = .ok (.istore_n 2, 1) := by decide +kernel
theorem dX0_countSharedWith_2 : decode cX0_countSharedWith 2 = .ok (.iconst 0, 1) := by decide +kernel
theorem dX0_countSharedWith_3 : decode cX0_countSharedWith 3 = .ok (.istore_n 3, 1) := by decide +kernel
theorem dX0_countSharedWith_4 : decode cX0_countSharedWith 4 = .ok (.iload_n 3, 1) := by decide +kernel
theorem dX0_countSharedWith_5 : decode cX0_countSharedWith 5 = .ok (.bipush 24, 2) := by decide +kernel
theorem dX0_countSharedWith_7 : decode cX0_countSharedWith 7 = .ok (.if_icmp .ge 36, 3) := by decide +kernel
theorem dX0_countSharedWith_10 : decode cX0_countSharedWith 10 = .ok (.aload_n 0, 1) := by decide +kernel
theorem dX0_countSharedWith_11 : decode cX0_countSharedWith 11 = .ok (.getfield 9, 3) := by decide +kernel
theorem dX0_countSharedWith_14 : decode cX0_countSharedWith 14 = .ok (.iload_n 3, 1) := by decide +kernel
theorem dX0_countSharedWith_15 : decode cX0_countSharedWith 15 = .ok (.iaload, 1) := by decide +kernel
theorem dX0_countSharedWith_16 : decode cX0_countSharedWith 16 = .ok (.ifCond .eq 21, 3) := by decide +kernel
theorem dX0_countSharedWith_19 : decode cX0_countSharedWith 19 = .ok (.aload_n 0, 1) := by decide +kernel
theorem dX0_countSharedWith_20 : decode cX0_countSharedWith 20 = .ok (.getfield 9, 3) := by decide +kernel
theorem dX0_countSharedWith_23 : decode cX0_countSharedWith 23 = .ok (.iload_n 3, 1) := by decide +kernel
theorem dX0_countSharedWith_24 : decode cX0_countSharedWith 24 = .ok (.iaload, 1) := by decide +kernel
theorem dX0_countSharedWith_25 : decode cX0_countSharedWith 25 = .ok (.aload_n 1, 1) := by decide +kernel
theorem dX0_countSharedWith_26 : decode cX0_countSharedWith 26 = .ok (.getfield 9, 3) := by decide +kernel
theorem dX0_countSharedWith_29 : decode cX0_countSharedWith 29 = .ok (.iload_n 3, 1) := by decide +kernel
theorem dX0_countSharedWith_30 : decode cX0_countSharedWith 30 = .ok (.iaload, 1) := by decide +kernel
theorem dX0_countSharedWith_31 : decode cX0_countSharedWith 31 = .ok (.if_icmp .ne 6, 3) := by decide +kernel
theorem dX0_countSharedWith_34 : decode cX0_countSharedWith 34 = .ok (.iinc 2 1, 3) := by decide +kernel
theorem dX0_countSharedWith_37 : decode cX0_countSharedWith 37 = .ok (.iinc 3 1, 3) := by decide +kernel
theorem dX0_countSharedWith_40 : decode cX0_countSharedWith 40 = .ok (.goto (-36), 3) := by decide +kernel
theorem dX0_countSharedWith_43 : decode cX0_countSharedWith 43 = .ok (.iload_n 2, 1) := by decide +kernel
theorem dX0_countSharedWith_44 : decode cX0_countSharedWith 44 = .ok (.ireturn, 1) := by decide +kernel
set_option maxRecDepth 20000 in
theorem ggX1_init_J7_fill_53178 : GoodIn wsX1_init wsJ7_fill_53178 := goodIn_r _ [10] (by decide +kernel) (by decide +kernel)
set_option maxRecDepth 20000 in
theorem gX1_init_J7_fill_53178 : GoodIn wsX1_init (va_wsS RX1 19 yJ7_fill_53178 wsJ7_fill_53178) := goodIn_app (goodIn_of _ (by decide +kernel)) ggX1_init_J7_fill_53178
theorem dX1_init_0 : decode cX1_init 0 = .ok (.aload_n 0, 1) := by decide +kernel
theorem dX1_init_1 : decode cX1_init 1 = .ok (.invokespecial 3, 3) := by decide +kernel
theorem dX1_init_4 : decode cX1_init 4 = .ok (.aload_n 0, 1) := by decide +kernel
theorem dX1_init_5 : decode cX1_init 5 = .ok (.bipush 24, 2) := by decide +kernel
theorem dX1_init_7 : decode cX1_init 7 = .ok (.newarray .int, 2) := by decide +kernel
theorem dX1_init_9 : decode cX1_init 9 = .ok (.putfield 9, 3) := by decide +kernel
theorem dX1_init_12 : decode cX1_init 12 = .ok (.aload_n 0, 1) := by decide +kernel
theorem dX1_init_13 : decode cX1_init 13 = .ok (.iconst 0, 1) := by decide +kernel
theorem dX1_init_14 : decode cX1_init 14 = .ok (.putfield 15, 3) := by decide +kernel
theorem dX1_init_17 : decode cX1_init 17 = .ok (.aload_n 0, 1) := by decide +kernel
theorem dX1_init_18 : decode cX1_init 18 = .ok (.getfield 9, 3) := by decide +kernel
theorem dX1_init_21 : decode cX1_init 21 = .ok (.iconst (-1), 1) := by decide +kernel
theorem dX1_init_22 : decode cX1_init 22 = .ok (.invokestatic 19, 3) := by decide +kernel
theorem dX1_init_25 : decode cX1_init 25 = .ok (.return_, 1) := by decide +kernel
set_option maxRecDepth 20000 in
theorem ggX1_hasRoomAt_X1_isFilled : GoodIn wsX1_hasRoomAt wsX1_isFilled := goodIn_r _ [6, 7, 8, 9] (by decide +kernel) (by decide +kernel)
set_option maxRecDepth 20000 in
theorem gX1_hasRoomAt_X1_isFilled : GoodIn wsX1_hasRoomAt (wsV RX1 25 RX1 yX1_isFilled wsX1_isFilled) := goodIn_app (goodIn_of _ (by decide +kernel)) ggX1_hasRoomAt_X1_isFilled
theorem dX1_hasRoomAt_0 : decode cX1_hasRoomAt 0 = .ok (.aload_n 0, 1) := by decide +kernel
theorem dX1_hasRoomAt_1 : decode cX1_hasRoomAt 1 = .ok (.getfield 15, 3) := by decide +kernel
theorem dX1_hasRoomAt_4 : decode cX1_hasRoomAt 4 = .ok (.bipush 6, 2) := by decide +kernel
theorem dX1_hasRoomAt_6 : decode cX1_hasRoomAt 6 = .ok (.if_icmp .lt 11, 3) := by decide +kernel
theorem dX1_hasRoomAt_9 : decode cX1_hasRoomAt 9 = .ok (.aload_n 0, 1) := by decide +kernel
theorem dX1_hasRoomAt_10 : decode cX1_hasRoomAt 10 = .ok (.iload_n 1, 1) := by decide +kernel
theorem dX1_hasRoomAt_11 : decode cX1_hasRoomAt 11 = .ok (.invokevirtual 25, 3) := by decide +kernel
theorem dX1_hasRoomAt_14 : decode cX1_hasRoomAt 14 = .ok (.ifCond .eq 7, 3) := by decide +kernel
theorem dX1_hasRoomAt_17 : decode cX1_hasRoomAt 17 = .ok (.iconst 1, 1) := by decide +kernel
theorem dX1_hasRoomAt_18 : decode cX1_hasRoomAt 18 = .ok (.goto 4, 3) := by decide +kernel
theorem dX1_hasRoomAt_21 : decode cX1_hasRoomAt 21 = .ok (.iconst 0, 1) := by decide +kernel
theorem dX1_hasRoomAt_22 : decode cX1_hasRoomAt 22 = .ok (.ireturn, 1) := by decide +kernel
theorem dX1_isFilled_0 : decode cX1_isFilled 0 = .ok (.iload_n 1, 1) := by decide +kernel
theorem dX1_isFilled_1 : decode cX1_isFilled 1 = .ok (.ifCond .lt 23, 3) := by decide +kernel
theorem dX1_isFilled_4 : decode cX1_isFilled 4 = .ok (.iload_n 1, 1) := by decide +kernel
theorem dX1_isFilled_5 : decode cX1_isFilled 5 = .ok (.bipush 24, 2) := by decide +kernel
theorem dX1_isFilled_7 : decode cX1_isFilled 7 = .ok (.if_icmp .ge 17, 3) := by decide +kernel
theorem dX1_isFilled_10 : decode cX1_isFilled 10 = .ok (.aload_n 0, 1) := by decide +kernel
theorem dX1_isFilled_11 : decode cX1_isFilled 11 = .ok (.getfield 9, 3) := by decide +kernel
theorem dX1_isFilled_14 : decode cX1_isFilled 14 = .ok (.iload_n 1, 1) := by decide +kernel
theorem dX1_isFilled_15 : decode cX1_isFilled 15 = .ok (.iaload, 1) := by decide +kernel
theorem dX1_isFilled_16 : decode cX1_isFilled 16 = .ok (.iconst (-1), 1) := by decide +kernel
theorem dX1_isFilled_17 : decode cX1_isFilled 17 = .ok (.if_icmp .eq 7, 3) := by decide +kernel
theorem dX1_isFilled_20 : decode cX1_isFilled 20 = .ok (.iconst 1, 1) := by decide +kernel
theorem dX1_isFilled_21 : decode cX1_isFilled 21 = .ok (.goto 4, 3) := by decide +kernel
theorem dX1_isFilled_24 : decode cX1_isFilled 24 = .ok (.iconst 0, 1) := by decide +kernel
theorem dX1_isFilled_25 : decode cX1_isFilled 25 = .ok (.ireturn, 1) := by decide +kernel
set_option maxRecDepth 20000 in
theorem ggX1_put_X1_isFilled : GoodIn wsX1_put wsX1_isFilled := goodIn_r _ [7, 2, 8, 9] (by decide +kernel) (by decide +kernel)
set_option maxRecDepth 20000 in
theorem gX1_put_X1_isFilled : GoodIn wsX1_put (wsV RX1 25 RX1 yX1_isFilled wsX1_isFilled) := goodIn_app (goodIn_of _ (by decide +kernel)) ggX1_put_X1_isFilled
theorem dX1_put_0 : decode cX1_put 0 = .ok (.iload_n 1, 1) := by decide +kernel
theorem dX1_put_1 : decode cX1_put 1 = .ok (.ifCond .lt 9, 3) := by decide +kernel
theorem dX1_put_4 : decode cX1_put 4 = .ok (.iload_n 1, 1) := by decide +kernel
theorem dX1_put_5 : decode cX1_put 5 = .ok (.bipush 24, 2) := by decide +kernel
theorem dX1_put_7 : decode cX1_put 7 = .ok (.if_icmp .lt 4, 3) := by decide +kernel
theorem dX1_put_10 : decode cX1_put 10 = .ok (.return_, 1) := by decide +kernel
theorem dX1_put_11 : decode cX1_put 11 = .ok (.aload_n 0, 1) := by decide +kernel
theorem dX1_put_12 : decode cX1_put 12 = .ok (.iload_n 1, 1) := by decide +kernel
theorem dX1_put_13 : decode cX1_put 13 = .ok (.invokevirtual 25, 3) := by decide +kernel
theorem dX1_put_16 : decode cX1_put 16 = .ok (.ifCond .eq 13, 3) := by decide +kernel
theorem dX1_put_19 : decode cX1_put 19 = .ok (.aload_n 0, 1) := by decide +kernel
theorem dX1_put_20 : decode cX1_put 20 = .ok (.dup, 1) := by decide +kernel
theorem dX1_put_21 : decode cX1_put 21 = .ok (.getfield 15, 3) := by decide +kernel
theorem dX1_put_24 : decode cX1_put 24 = .ok (.iconst 1, 1) := by decide +kernel
theorem dX1_put_25 : decode cX1_put 25 = .ok (.isub, 1) := by decide +kernel
theorem dX1_put_26 : decode cX1_put 26 = .ok (.putfield 15, 3) := by decide +kernel
theorem dX1_put_29 : decode cX1_put 29 = .ok (.aload_n 0, 1) := by decide +kernel
theorem dX1_put_30 : decode cX1_put 30 = .ok (.getfield 9, 3) := by decide +kernel
theorem dX1_put_33 : decode cX1_put 33 = .ok (.iload_n 1, 1) := by decide +kernel
theorem dX1_put_34 : decode cX1_put 34 = .ok (.iload_n 2, 1) := by decide +kernel
theorem dX1_put_35 : decode cX1_put 35 = .ok (.iastore, 1) := by decide +kernel
theorem dX1_put_36 : decode cX1_put 36 = .ok (.aload_n 0, 1) := by decide +kernel
theorem dX1_put_37 : decode cX1_put 37 = .ok (.iload_n 1, 1) := by decide +kernel
theorem dX1_put_38 : decode cX1_put 38 = .ok (.invokevirtual 25, 3) := by decide +kernel
theorem dX1_put_41 : decode cX1_put 41 = .ok (.ifCond .eq 13, 3) := by decide +kernel
theorem dX1_put_44 : decode cX1_put 44 = .ok (.aload_n 0, 1) := by decide +kernel
theorem dX1_put_45 : decode cX1_put 45 = .ok (.dup, 1) := by decide +kernel
theorem dX1_put_46 : decode cX1_put 46 = .ok (.getfield 15, 3) := by decide +kernel
theorem dX1_put_49 : decode cX1_put 49 = .ok (.iconst 1, 1) := by decide +kernel
theorem dX1_put_50 : decode cX1_put 50 = .ok (.iadd, 1) := by decide +kernel
theorem dX1_put_51 : decode cX1_put 51 = .ok (.putfield 15, 3) := by decide +kernel
theorem dX1_put_54 : decode cX1_put 54 = .ok (.return_, 1) := by decide +kernel
set_option maxRecDepth 20000 in
theorem ggX1_clear_J7_fill_53178 : GoodIn wsX1_clear wsJ7_fill_53178 := goodIn_r _ [6] (by decide +kernel) (by decide +kernel)
set_option maxRecDepth 20000 in
theorem gX1_clear_J7_fill_53178 : GoodIn wsX1_clear (va_wsS RX1 19 yJ7_fill_53178 wsJ7_fill_53178) := goodIn_app (goodIn_of _ (by decide +kernel)) ggX1_clear_J7_fill_53178
theorem dX1_clear_0 : decode cX1_clear 0 = .ok (.aload_n 0, 1) := by decide +kernel
theorem dX1_clear_1 : decode cX1_clear 1 = .ok (.getfield 9, 3) := by decide +kernel
theorem dX1_clear_4 : decode cX1_clear 4 = .ok (.iconst (-1), 1) := by decide +kernel
theorem dX1_clear_5 : decode cX1_clear 5 = .ok (.invokestatic 19, 3) := by decide +kernel
theorem dX1_clear_8 : decode cX1_clear 8 = .ok (.aload_n 0, 1) := by decide +kernel
theorem dX1_clear_9 : decode cX1_clear 9 = .ok (.iconst 0, 1) := by decide +kernel
theorem dX1_clear_10 : decode cX1_clear 10 = .ok (.putfield 15, 3) := by decide +kernel
theorem dX1_clear_13 : decode cX1_clear 13 = .ok (.return_, 1) := by decide +kernel
set_option maxRecDepth 20000 in
theorem ggX1_writeInto_X1_isFilled : GoodIn wsX1_writeInto wsX1_isFilled := goodIn_r _ [7, 2, 15, 16] (by decide +kernel) (by decide +kernel)
set_option maxRecDepth 20000 in
theorem gX1_writeInto_X1_isFilled : GoodIn wsX1_writeInto (wsV RX1 25 RX1 yX1_isFilled wsX1_isFilled) := goodIn_app (goodIn_of _ (by decide +kernel)) ggX1_writeInto_X1_isFilled
theorem dX1_writeInto_0 : decode cX1_writeInto 0 = .ok (.iconst 0, 1) := by decide +kernel
theorem dX1_writeInto_1 : decode cX1_writeInto 1 = .ok (.istore_n 2, 1) := by decide +kernel
theorem dX1_writeInto_2 : decode cX1_writeInto 2 = .ok (.iconst 0, 1) := by decide +kernel
theorem dX1_writeInto_3 : decode cX1_writeInto 3 = .ok (.istore_n 3, 1) := by decide +kernel
theorem dX1_writeInto_4 : decode cX1_writeInto 4 = .ok (.iload_n 3, 1) := by decide +kernel
theorem dX1_writeInto_5 : decode cX1_writeInto 5 = .ok (.bipush 24, 2) := by decide +kernel
theorem dX1_writeInto_7 : decode cX1_writeInto 7 = .ok (.if_icmp .ge 47, 3) := by decide +kernel
theorem dX1_writeInto_10 : decode cX1_writeInto 10 = .ok (.aload_n 0, 1) := by decide +kernel
theorem dX1_writeInto_11 : decode cX1_writeInto 11 = .ok (.iload_n 3, 1) := by decide +kernel
theorem dX1_writeInto_12 : decode cX1_writeInto 12 = .ok (.invokevirtual 25, 3) := by decide +kernel
theorem dX1_writeInto_15 : decode cX1_writeInto 15 = .ok (.ifCond .eq 33, 3) := by decide +kernel
theorem dX1_writeInto_18 : decode cX1_writeInto 18 = .ok (.aload_n 1, 1) := by decide +kernel
theorem dX1_writeInto_19 : decode cX1_writeInto 19 = .ok (.getfield 29, 3) := by decide +kernel
theorem dX1_writeInto_22 : decode cX1_writeInto 22 = .ok (.iload_n 3, 1) := by decide +kernel
theorem dX1_writeInto_23 : decode cX1_writeInto 23 = .ok (.iaload, 1) := by decide +kernel
theorem dX1_writeInto_24 : decode cX1_writeInto 24 = .ok (.aload_n 0, 1) := by decide +kernel
theorem dX1_writeInto_25 : decode cX1_writeInto 25 = .ok (.getfield 9, 3) := by decide +kernel
theorem dX1_writeInto_28 : decode cX1_writeInto 28 = .ok (.iload_n 3, 1) := by decide +kernel
theorem dX1_writeInto_29 : decode cX1_writeInto 29 = .ok (.iaload, 1) := by decide +kernel
theorem dX1_writeInto_30 : decode cX1_writeInto 30 = .ok (.if_icmp .eq 18, 3) := by decide +kernel
theorem dX1_writeInto_33 : decode cX1_writeInto 33 = .ok (.aload_n 1, 1) := by decide +kernel
theorem dX1_writeInto_34 : decode cX1_writeInto 34 = .ok (.getfield 29, 3) := by decide +kernel
theorem dX1_writeInto_37 : decode cX1_writeInto 37 = .ok (.iload_n 3, 1) := by decide +kernel
theorem dX1_writeInto_38 : decode cX1_writeInto 38 = .ok (.aload_n 0, 1) := by decide +kernel
theorem dX1_writeInto_39 : decode cX1_writeInto 39 = .ok (.getfield 9, 3) := by decide +kernel
theorem dX1_writeInto_42 : decode cX1_writeInto 42 = .ok (.iload_n 3, 1) := by decide +kernel
theorem dX1_writeInto_43 : decode cX1_writeInto 43 = .ok (.iaload, 1) := by decide +kernel
theorem dX1_writeInto_44 : decode cX1_writeInto 44 = .ok (.iastore, 1) := by decide +kernel
theorem dX1_writeInto_45 : decode cX1_writeInto 45 = .ok (.iinc 2 1, 3) := by decide +kernel
theorem dX1_writeInto_48 : decode cX1_writeInto 48 = .ok (.iinc 3 1, 3) := by decide +kernel
theorem dX1_writeInto_51 : decode cX1_writeInto 51 = .ok (.goto (-47), 3) := by decide +kernel
theorem dX1_writeInto_54 : decode cX1_writeInto 54 = .ok (.iload_n 2, 1) := by decide +kernel
theorem dX1_writeInto_55 : decode cX1_writeInto 55 = .ok (.ireturn, 1) := by decide +kernel
theorem dX2_init_0 : decode cX2_init 0 = .ok (.aload_n 0, 1) := by decide +kernel
theorem dX2_init_1 : decode cX2_init 1 = .ok (.invokespecial 3, 3) := by decide +kernel
theorem dX2_init_4 : decode cX2_init 4 = .ok (.aload_n 0, 1) := by decide +kernel
theorem dX2_init_5 : decode cX2_init 5 = .ok (.bipush 60, 2) := by decide +kernel
theorem dX2_init_7 : decode cX2_init 7 = .ok (.newarray .boolean, 2) := by decide +kernel
theorem dX2_init_9 : decode cX2_init 9 = .ok (.putfield 9, 3) := by decide +kernel
theorem dX2_init_12 : decode cX2_init 12 = .ok (.aload_n 0, 1) := by decide +kernel
theorem dX2_init_13 : decode cX2_init 13 = .ok (.bipush 100, 2) := by decide +kernel
theorem dX2_init_15 : decode cX2_init 15 = .ok (.putfield 15, 3) := by decide +kernel
theorem dX2_init_18 : decode cX2_init 18 = .ok (.aload_n 0, 1) := by decide +kernel
theorem dX2_init_19 : decode cX2_init 19 = .ok (.iconst 0, 1) := by decide +kernel
theorem dX2_init_20 : decode cX2_init 20 = .ok (.putfield 19, 3) := by decide +kernel
theorem dX2_init_23 : decode cX2_init 23 = .ok (.aload_n 0, 1) := by decide +kernel
theorem dX2_init_24 : decode cX2_init 24 = .ok (.iload_n 1, 1) := by decide +kernel
theorem dX2_init_25 : decode cX2_init 25 = .ok (.putfield 22, 3) := by decide +kernel
theorem dX2_init_28 : decode cX2_init 28 = .ok (.return_, 1) := by decide +kernel
theorem dX2_holds_0 : decode cX2_holds 0 = .ok (.iload_n 1, 1) := by decide +kernel
theorem dX2_holds_1 : decode cX2_holds 1 = .ok (.ifCond .lt 22, 3) := by decide +kernel
theorem dX2_holds_4 : decode cX2_holds 4 = .ok (.iload_n 1, 1) := by decide +kernel
theorem dX2_holds_5 : decode cX2_holds 5 = .ok (.bipush 60, 2) := by decide +kernel
theorem dX2_holds_7 : decode cX2_holds 7 = .ok (.if_icmp .ge 16, 3) := by decide +kernel
theorem dX2_holds_10 : decode cX2_holds 10 = .ok (.aload_n 0, 1) := by decide +kernel
theorem dX2_holds_11 : decode cX2_holds 11 = .ok (.getfield 9, 3) := by decide +kernel
theorem dX2_holds_14 : decode cX2_holds 14 = .ok (.iload_n 1, 1) := by decide +kernel
theorem dX2_holds_15 : decode cX2_holds 15 = .ok (.baload, 1) := by decide +kernel
theorem dX2_holds_16 : decode cX2_holds 16 = .ok (.ifCond .eq 7, 3) := by decide +kernel
theorem dX2_holds_19 : decode cX2_holds 19 = .ok (.iconst 1, 1) := by decide +kernel
theorem dX2_holds_20 : decode cX2_holds 20 = .ok (.goto 4, 3) := by decide +kernel
theorem dX2_holds_23 : decode cX2_holds 23 = .ok (.iconst 0, 1) := by decide +kernel
theorem dX2_holds_24 : decode cX2_holds 24 = .ok (.ireturn, 1) := by decide +kernel
theorem dX2_take_0 : decode cX2_take 0 = .ok (.iload_n 1, 1) := by decide +kernel
theorem dX2_take_1 : decode cX2_take 1 = .ok (.ifCond .lt 16, 3) := by decide +kernel
theorem dX2_take_4 : decode cX2_take 4 = .ok (.iload_n 1, 1) := by decide +kernel
theorem dX2_take_5 : decode cX2_take 5 = .ok (.bipush 60, 2) := by decide +kernel
theorem dX2_take_7 : decode cX2_take 7 = .ok (.if_icmp .ge 10, 3) := by decide +kernel
theorem dX2_take_10 : decode cX2_take 10 = .ok (.aload_n 0, 1) := by decide +kernel
theorem dX2_take_11 : decode cX2_take 11 = .ok (.getfield 9, 3) := by decide +kernel
theorem dX2_take_14 : decode cX2_take 14 = .ok (.iload_n 1, 1) := by decide +kernel
theorem dX2_take_15 : decode cX2_take 15 = .ok (.iconst 1, 1) := by decide +kernel
theorem dX2_take_16 : decode cX2_take 16 = .ok (.bastore, 1) := by decide +kernel
theorem dX2_take_17 : decode cX2_take 17 = .ok (.return_, 1) := by decide +kernel
set_option maxRecDepth 20000 in
theorem ggX2_takeLettersOf_X2_holds : GoodIn wsX2_takeLettersOf wsX2_holds := goodIn_r _ [5, 6, 11, 12, 13, 14] (by decide +kernel) (by decide +kernel)
set_option maxRecDepth 20000 in
theorem gX2_takeLettersOf_X2_holds : GoodIn wsX2_takeLettersOf (wsV RX2 25 RX2 yX2_holds wsX2_holds) := goodIn_app (goodIn_of _ (by decide +kernel)) ggX2_takeLettersOf_X2_holds
set_option maxRecDepth 20000 in
theorem ggX2_takeLettersOf_X2_take : GoodIn wsX2_takeLettersOf wsX2_take := goodIn_r _ [10, 6, 11, 12, 13, 14] (by decide +kernel) (by decide +kernel)
set_option maxRecDepth 20000 in
theorem gX2_takeLettersOf_X2_take : GoodIn wsX2_takeLettersOf (wsV RX2 29 RX2 yX2_take wsX2_take) := goodIn_app (goodIn_of _ (by decide +kernel)) ggX2_takeLettersOf_X2_take
theorem dX2_takeLettersOf_0 : decode cX2_takeLettersOf 0 = .ok (.iconst 0, 1) := by decide +kernel
theorem dX2_takeLettersOf_1 : decode cX2_takeLettersOf 1 = .ok (.istore_n 2, 1) := by decide +kernel
theorem dX2_takeLettersOf_2 : decode cX2_takeLettersOf 2 = .ok (.iload_n 2, 1) := by decide +kernel
theorem dX2_takeLettersOf_3 : decode cX2_takeLettersOf 3 = .ok (.bipush 60, 2) := by decide +kernel
theorem dX2_takeLettersOf_5 : decode cX2_takeLettersOf 5 = .ok (.if_icmp .ge 22, 3) := by decide +kernel
theorem dX2_takeLettersOf_8 : decode cX2_takeLettersOf 8 = .ok (.aload_n 1, 1) := by decide +kernel
theorem dX2_takeLettersOf_9 : decode cX2_takeLettersOf 9 = .ok (.iload_n 2, 1) := by decide +kernel
theorem dX2_takeLettersOf_10 : decode cX2_takeLettersOf 10 = .ok (.invokevirtual 25, 3) := by decide +kernel
theorem dX2_takeLettersOf_13 : decode cX2_takeLettersOf 13 = .ok (.ifCond .eq 8, 3) := by decide +kernel
theorem dX2_takeLettersOf_16 : decode cX2_takeLettersOf 16 = .ok (.aload_n 0, 1) := by decide +kernel
theorem dX2_takeLettersOf_17 : decode cX2_takeLettersOf 17 = .ok (.iload_n 2, 1) := by decide +kernel
theorem dX2_takeLettersOf_18 : decode cX2_takeLettersOf 18 = .ok (.invokevirtual 29, 3) := by decide +kernel
theorem dX2_takeLettersOf_21 : decode cX2_takeLettersOf 21 = .ok (.iinc 2 1, 3) := by decide +kernel
theorem dX2_takeLettersOf_24 : decode cX2_takeLettersOf 24 = .ok (.goto (-22), 3) := by decide +kernel
theorem dX2_takeLettersOf_27 : decode cX2_takeLettersOf 27 = .ok (.return_, 1) := by decide +kernel
theorem dX3_init_0 : decode cX3_init 0 = .ok (.aload_n 0, 1) := by decide +kernel
theorem dX3_init_1 : decode cX3_init 1 = .ok (.invokespecial 3, 3) := by decide +kernel
theorem dX3_init_4 : decode cX3_init 4 = .ok (.aload_n 0, 1) := by decide +kernel
theorem dX3_init_5 : decode cX3_init 5 = .ok (.iload_n 1, 1) := by decide +kernel
theorem dX3_init_6 : decode cX3_init 6 = .ok (.putfield 9, 3) := by decide +kernel
theorem dX3_init_9 : decode cX3_init 9 = .ok (.aload_n 0, 1) := by decide +kernel
theorem dX3_init_10 : decode cX3_init 10 = .ok (.iload_n 2, 1) := by decide +kernel
theorem dX3_init_11 : decode cX3_init 11 = .ok (.putfield 15, 3) := by decide +kernel
theorem dX3_init_14 : decode cX3_init 14 = .ok (.aload_n 0, 1) := by decide +kernel
theorem dX3_init_15 : decode cX3_init 15 = .ok (.iload_n 3, 1) := by decide +kernel
theorem dX3_init_16 : decode cX3_init 16 = .ok (.putfield 18, 3) := by decide +kernel
theorem dX3_init_19 : decode cX3_init 19 = .ok (.return_, 1) := by decide +kernel
theorem dX3_changes_0 : decode cX3_changes 0 = .ok (.aload_n 0, 1) := by decide +kernel
theorem dX3_changes_1 : decode cX3_changes 1 = .ok (.getfield 9, 3) := by decide +kernel
theorem dX3_changes_4 : decode cX3_changes 4 = .ok (.ifCond .lt 28, 3) := by decide +kernel
theorem dX3_changes_7 : decode cX3_changes 7 = .ok (.aload_n 0, 1) := by decide +kernel
theorem dX3_changes_8 : decode cX3_changes 8 = .ok (.getfield 9, 3) := by decide +kernel
theorem dX3_changes_11 : decode cX3_changes 11 = .ok (.bipush 24, 2) := by decide +kernel
theorem dX3_changes_13 : decode cX3_changes 13 = .ok (.if_icmp .ge 19, 3) := by decide +kernel
theorem dX3_changes_16 : decode cX3_changes 16 = .ok (.aload_n 1, 1) := by decide +kernel
theorem dX3_changes_17 : decode cX3_changes 17 = .ok (.getfield 21, 3) := by decide +kernel
theorem dX3_changes_20 : decode cX3_changes 20 = .ok (.aload_n 0, 1) := by decide +kernel
theorem dX3_changes_21 : decode cX3_changes 21 = .ok (.getfield 9, 3) := by decide +kernel
theorem dX3_changes_24 : decode cX3_changes 24 = .ok (.iaload, 1) := by decide +kernel
theorem dX3_changes_25 : decode cX3_changes 25 = .ok (.aload_n 0, 1) := by decide +kernel
theorem dX3_changes_26 : decode cX3_changes 26 = .ok (.getfield 15, 3) := by decide +kernel
theorem dX3_changes_29 : decode cX3_changes 29 = .ok (.if_icmp .eq 5, 3) := by decide +kernel
theorem dX3_changes_32 : decode cX3_changes 32 = .ok (.iconst 0, 1) := by decide +kernel
theorem dX3_changes_33 : decode cX3_changes 33 = .ok (.ireturn, 1) := by decide +kernel
theorem dX3_changes_34 : decode cX3_changes 34 = .ok (.aload_n 1, 1) := by decide +kernel
theorem dX3_changes_35 : decode cX3_changes 35 = .ok (.getfield 21, 3) := by decide +kernel
theorem dX3_changes_38 : decode cX3_changes 38 = .ok (.aload_n 0, 1) := by decide +kernel
theorem dX3_changes_39 : decode cX3_changes 39 = .ok (.getfield 9, 3) := by decide +kernel
theorem dX3_changes_42 : decode cX3_changes 42 = .ok (.aload_n 0, 1) := by decide +kernel
theorem dX3_changes_43 : decode cX3_changes 43 = .ok (.getfield 18, 3) := by decide +kernel
theorem dX3_changes_46 : decode cX3_changes 46 = .ok (.iastore, 1) := by decide +kernel
theorem dX3_changes_47 : decode cX3_changes 47 = .ok (.iconst 1, 1) := by decide +kernel
theorem dX3_changes_48 : decode cX3_changes 48 = .ok (.ireturn, 1) := by decide +kernel
theorem dX4_init_0 : decode cX4_init 0 = .ok (.aload_n 0, 1) := by decide +kernel
theorem dX4_init_1 : decode cX4_init 1 = .ok (.invokespecial 3, 3) := by decide +kernel
theorem dX4_init_4 : decode cX4_init 4 = .ok (.aload_n 0, 1) := by decide +kernel
theorem dX4_init_5 : decode cX4_init 5 = .ok (.iconst 0, 1) := by decide +kernel
theorem dX4_init_6 : decode cX4_init 6 = .ok (.putfield 9, 3) := by decide +kernel
theorem dX4_init_9 : decode cX4_init 9 = .ok (.aload_n 0, 1) := by decide +kernel
theorem dX4_init_10 : decode cX4_init 10 = .ok (.iconst 0, 1) := by decide +kernel
theorem dX4_init_11 : decode cX4_init 11 = .ok (.putfield 15, 3) := by decide +kernel
theorem dX4_init_14 : decode cX4_init 14 = .ok (.aload_n 0, 1) := by decide +kernel
theorem dX4_init_15 : decode cX4_init 15 = .ok (.aload_n 1, 1) := by decide +kernel
theorem dX4_init_16 : decode cX4_init 16 = .ok (.putfield 19, 3) := by decide +kernel
theorem dX4_init_19 : decode cX4_init 19 = .ok (.aload_n 0, 1) := by decide +kernel
theorem dX4_init_20 : decode cX4_init 20 = .ok (.aload_n 2, 1) := by decide +kernel
theorem dX4_init_21 : decode cX4_init 21 = .ok (.putfield 23, 3) := by decide +kernel
theorem dX4_init_24 : decode cX4_init 24 = .ok (.aload_n 0, 1) := by decide +kernel
theorem dX4_init_25 : decode cX4_init 25 = .ok (.iload_n 3, 1) := by decide +kernel
theorem dX4_init_26 : decode cX4_init 26 = .ok (.putfield 27, 3) := by decide +kernel
theorem dX4_init_29 : decode cX4_init 29 = .ok (.aload_n 0, 1) := by decide +kernel
theorem dX4_init_30 : decode cX4_init 30 = .ok (.iload 4, 2) := by decide +kernel
theorem dX4_init_32 : decode cX4_init 32 = .ok (.putfield 30, 3) := by decide +kernel
theorem dX4_init_35 : decode cX4_init 35 = .ok (.return_, 1) := by decide +kernel
theorem dX4_daysLateOn_0 : decode cX4_daysLateOn 0 = .ok (.iconst 0, 1) := by decide +kernel
theorem dX4_daysLateOn_1 : decode cX4_daysLateOn 1 = .ok (.iload_n 1, 1) := by decide +kernel
theorem dX4_daysLateOn_2 : decode cX4_daysLateOn 2 = .ok (.aload_n 0, 1) := by decide +kernel
theorem dX4_daysLateOn_3 : decode cX4_daysLateOn 3 = .ok (.getfield 27, 3) := by decide +kernel
theorem dX4_daysLateOn_6 : decode cX4_daysLateOn 6 = .ok (.isub, 1) := by decide +kernel
theorem dX4_daysLateOn_7 : decode cX4_daysLateOn 7 = .ok (.invokestatic 33, 3) := by decide +kernel
theorem dX4_daysLateOn_10 : decode cX4_daysLateOn 10 = .ok (.ireturn, 1) := by decide +kernel
set_option maxRecDepth 20000 in
theorem ggX4_lostOn_X4_daysLateOn : GoodIn wsX4_lostOn wsX4_daysLateOn := goodIn_r _ [6, 7, 8, 9, 10, 11, 12, 13, 14, 15, 16, 17] (by decide +kernel) (by decide +kernel)
set_option maxRecDepth 20000 in
theorem gX4_lostOn_X4_daysLateOn : GoodIn wsX4_lostOn (wsV RX4 39 RX4 yX4_daysLateOn wsX4_daysLateOn) := goodIn_app (goodIn_of _ (by decide +kernel)) ggX4_lostOn_X4_daysLateOn
theorem dX4_lostOn_0 : decode cX4_lostOn 0 = .ok (.aload_n 0, 1) := by decide +kernel
theorem dX4_lostOn_1 : decode cX4_lostOn 1 = .ok (.iload_n 1, 1) := by decide +kernel
theorem dX4_lostOn_2 : decode cX4_lostOn 2 = .ok (.invokevirtual 39, 3) := by decide +kernel
theorem dX4_lostOn_5 : decode cX4_lostOn 5 = .ok (.istore_n 2, 1) := by decide +kernel
theorem dX4_lostOn_6 : decode cX4_lostOn 6 = .ok (.iload_n 2, 1) := by decide +kernel
theorem dX4_lostOn_7 : decode cX4_lostOn 7 = .ok (.ifCond .ne 5, 3) := by decide +kernel
theorem dX4_lostOn_10 : decode cX4_lostOn 10 = .ok (.iconst 0, 1) := by decide +kernel
theorem dX4_lostOn_11 : decode cX4_lostOn 11 = .ok (.ireturn, 1) := by decide +kernel
theorem dX4_lostOn_12 : decode cX4_lostOn 12 = .ok (.iload_n 2, 1) := by decide +kernel
theorem dX4_lostOn_13 : decode cX4_lostOn 13 = .ok (.bipush 10, 2) := by decide +kernel
theorem dX4_lostOn_15 : decode cX4_lostOn 15 = .ok (.if_icmp .gt 14, 3) := by decide +kernel
theorem dX4_lostOn_18 : decode cX4_lostOn 18 = .ok (.aload_n 0, 1) := by decide +kernel
theorem dX4_lostOn_19 : decode cX4_lostOn 19 = .ok (.getfield 30, 3) := by decide +kernel
theorem dX4_lostOn_22 : decode cX4_lostOn 22 = .ok (.iconst 1, 1) := by decide +kernel
theorem dX4_lostOn_23 : decode cX4_lostOn 23 = .ok (.iadd, 1) := by decide +kernel
theorem dX4_lostOn_24 : decode cX4_lostOn 24 = .ok (.iconst 2, 1) := by decide +kernel
theorem dX4_lostOn_25 : decode cX4_lostOn 25 = .ok (.idiv, 1) := by decide +kernel
theorem dX4_lostOn_26 : decode cX4_lostOn 26 = .ok (.goto 7, 3) := by decide +kernel
theorem dX4_lostOn_29 : decode cX4_lostOn 29 = .ok (.aload_n 0, 1) := by decide +kernel
theorem dX4_lostOn_30 : decode cX4_lostOn 30 = .ok (.getfield 30, 3) := by decide +kernel
theorem dX4_lostOn_33 : decode cX4_lostOn 33 = .ok (.ireturn, 1) := by decide +kernel
set_option maxRecDepth 20000 in
theorem ggX5_init_Jx4a65c_init_da8c8 : GoodIn wsX5_init wsJx4a65c_init_da8c8 := goodIn_r _ [26, 27, 28, 29, 30, 31, 32, 33, 34, 35, 36, 37, 38, 2, 3, 122, 123, 124] (by decide +kernel) (by decide +kernel)
set_option maxRecDepth 20000 in
theorem gX5_init_Jx4a65c_init_da8c8 : GoodIn wsX5_init (wsJx4a65c_init_da8c8) := ggX5_init_Jx4a65c_init_da8c8
set_option maxRecDepth 20000 in
theorem ggX5_init_X1_init : GoodIn wsX5_init wsX1_init := goodIn_r _ [41, 42, 2, 3, 11, 43, 44, 45, 46, 47, 48, 132, 133] (by decide +kernel) (by decide +kernel)
set_option maxRecDepth 20000 in
theorem gX5_init_X1_init : GoodIn wsX5_init (wsX1_init) := ggX5_init_X1_init
set_option maxRecDepth 20000 in
theorem ggX5_init_X2_init : GoodIn wsX5_init wsX2_init := goodIn_r _ [51, 52, 2, 3, 53, 54, 55, 56, 57, 134, 135, 136, 137] (by decide +kernel) (by decide +kernel)
set_option maxRecDepth 20000 in
theorem gX5_init_X2_init : GoodIn wsX5_init (wsX2_init) := ggX5_init_X2_init
set_option maxRecDepth 20000 in
theorem ggX5_init_Jx4a65c_add_9ea2d : GoodIn wsX5_init wsJx4a65c_add_9ea2d := goodIn_r _ [61, 62, 63, 28, 64, 65, 66, 67, 6, 68, 69, 70, 71, 72, 73, 74, 75, 76, 27, 77, 78, 79, 80, 81, 82, 83, 84, 85, 86, 87, 88, 89, 90, 91, 92, 47, 93, 94, 95, 96, 97, 98, 99, 100, 101, 102, 103, 104, 105, 106, 107, 108, 109, 122, 123, 124] (by decide +kernel) (by decide +kernel)
set_option maxRecDepth 20000 in
theorem gX5_init_Jx4a65c_add_9ea2d : GoodIn wsX5_init (wsV RX5 45 RJx4a65c yJx4a65c_add_9ea2d wsJx4a65c_add_9ea2d) := goodIn_app (goodIn_of _ (by decide +kernel)) ggX5_init_Jx4a65c_add_9ea2d
set_option maxRecDepth 20000 in
theorem ggX5_init_X0_init : GoodIn wsX5_init wsX0_init := goodIn_r _ [112, 113, 2, 3, 11, 114, 115, 116, 117, 118, 119, 120, 121, 107, 108, 109, 138, 139, 140, 141, 142, 143, 144] (by decide +kernel) (by decide +kernel)
set_option maxRecDepth 20000 in
theorem gX5_init_X0_init : GoodIn wsX5_init (wsX0_init) := ggX5_init_X0_init
theorem dX5_init_0 : decode cX5_init 0 = .ok (.aload_n 0, 1) := by decide +kernel
theorem dX5_init_1 : decode cX5_init 1 = .ok (.invokespecial 1, 3) := by decide +kernel
theorem dX5_init_4 : decode cX5_init 4 = .ok (.aload_n 0, 1) := by decide +kernel
theorem dX5_init_5 : decode cX5_init 5 = .ok (.new 7, 3) := by decide +kernel
theorem dX5_init_8 : decode cX5_init 8 = .ok (.dup, 1) := by decide +kernel
theorem dX5_init_9 : decode cX5_init 9 = .ok (.invokespecial 9, 3) := by decide +kernel
theorem dX5_init_12 : decode cX5_init 12 = .ok (.putfield 10, 3) := by decide +kernel
theorem dX5_init_15 : decode cX5_init 15 = .ok (.aload_n 0, 1) := by decide +kernel
theorem dX5_init_16 : decode cX5_init 16 = .ok (.new 7, 3) := by decide +kernel
theorem dX5_init_19 : decode cX5_init 19 = .ok (.dup, 1) := by decide +kernel
theorem dX5_init_20 : decode cX5_init 20 = .ok (.invokespecial 9, 3) := by decide +kernel
theorem dX5_init_23 : decode cX5_init 23 = .ok (.putfield 16, 3) := by decide +kernel
theorem dX5_init_26 : decode cX5_init 26 = .ok (.aload_n 0, 1) := by decide +kernel
theorem dX5_init_27 : decode cX5_init 27 = .ok (.new 7, 3) := by decide +kernel
theorem dX5_init_30 : decode cX5_init 30 = .ok (.dup, 1) := by decide +kernel
theorem dX5_init_31 : decode cX5_init 31 = .ok (.invokespecial 9, 3) := by decide +kernel
theorem dX5_init_34 : decode cX5_init 34 = .ok (.putfield 19, 3) := by decide +kernel
theorem dX5_init_37 : decode cX5_init 37 = .ok (.aload_n 0, 1) := by decide +kernel
theorem dX5_init_38 : decode cX5_init 38 = .ok (.new 7, 3) := by decide +kernel
theorem dX5_init_41 : decode cX5_init 41 = .ok (.dup, 1) := by decide +kernel
theorem dX5_init_42 : decode cX5_init 42 = .ok (.invokespecial 9, 3) := by decide +kernel
theorem dX5_init_45 : decode cX5_init 45 = .ok (.putfield 22, 3) := by decide +kernel
theorem dX5_init_48 : decode cX5_init 48 = .ok (.aload_n 0, 1) := by decide +kernel
theorem dX5_init_49 : decode cX5_init 49 = .ok (.bipush 6, 2) := by decide +kernel
theorem dX5_init_51 : decode cX5_init 51 = .ok (.newarray .int, 2) := by decide +kernel
theorem dX5_init_53 : decode cX5_init 53 = .ok (.putfield 25, 3) := by decide +kernel
theorem dX5_init_56 : decode cX5_init 56 = .ok (.aload_n 0, 1) := by decide +kernel
theorem dX5_init_57 : decode cX5_init 57 = .ok (.new 29, 3) := by decide +kernel
theorem dX5_init_60 : decode cX5_init 60 = .ok (.dup, 1) := by decide +kernel
theorem dX5_init_61 : decode cX5_init 61 = .ok (.invokespecial 31, 3) := by decide +kernel
theorem dX5_init_64 : decode cX5_init 64 = .ok (.putfield 32, 3) := by decide +kernel
theorem dX5_init_67 : decode cX5_init 67 = .ok (.aload_n 0, 1) := by decide +kernel
theorem dX5_init_68 : decode cX5_init 68 = .ok (.iconst 0, 1) := by decide +kernel
theorem dX5_init_69 : decode cX5_init 69 = .ok (.putfield 36, 3) := by decide +kernel
theorem dX5_init_72 : decode cX5_init 72 = .ok (.new 40, 3) := by decide +kernel
theorem dX5_init_75 : decode cX5_init 75 = .ok (.dup, 1) := by decide +kernel
theorem dX5_init_76 : decode cX5_init 76 = .ok (.iconst 0, 1) := by decide +kernel
theorem dX5_init_77 : decode cX5_init 77 = .ok (.invokespecial 42, 3) := by decide +kernel
theorem dX5_init_80 : decode cX5_init 80 = .ok (.astore_n 1, 1) := by decide +kernel
theorem dX5_init_81 : decode cX5_init 81 = .ok (.aload_n 0, 1) := by decide +kernel
theorem dX5_init_82 : decode cX5_init 82 = .ok (.getfield 10, 3) := by decide +kernel
theorem dX5_init_85 : decode cX5_init 85 = .ok (.aload_n 1, 1) := by decide +kernel
theorem dX5_init_86 : decode cX5_init 86 = .ok (.invokevirtual 45, 3) := by decide +kernel
theorem dX5_init_89 : decode cX5_init 89 = .ok (.pop, 1) := by decide +kernel
theorem dX5_init_90 : decode cX5_init 90 = .ok (.iconst 1, 1) := by decide +kernel
theorem dX5_init_91 : decode cX5_init 91 = .ok (.istore_n 2, 1) := by decide +kernel
theorem dX5_init_92 : decode cX5_init 92 = .ok (.iload_n 2, 1) := by decide +kernel
theorem dX5_init_93 : decode cX5_init 93 = .ok (.iconst 5, 1) := by decide +kernel
theorem dX5_init_94 : decode cX5_init 94 = .ok (.if_icmp .ge 25, 3) := by decide +kernel
theorem dX5_init_97 : decode cX5_init 97 = .ok (.aload_n 0, 1) := by decide +kernel
theorem dX5_init_98 : decode cX5_init 98 = .ok (.getfield 10, 3) := by decide +kernel
theorem dX5_init_101 : decode cX5_init 101 = .ok (.new 40, 3) := by decide +kernel
theorem dX5_init_104 : decode cX5_init 104 = .ok (.dup, 1) := by decide +kernel
theorem dX5_init_105 : decode cX5_init 105 = .ok (.iload_n 2, 1) := by decide +kernel
theorem dX5_init_106 : decode cX5_init 106 = .ok (.invokespecial 42, 3) := by decide +kernel
theorem dX5_init_109 : decode cX5_init 109 = .ok (.invokevirtual 45, 3) := by decide +kernel
theorem dX5_init_112 : decode cX5_init 112 = .ok (.pop, 1) := by decide +kernel
theorem dX5_init_113 : decode cX5_init 113 = .ok (.iinc 2 1, 3) := by decide +kernel
theorem dX5_init_116 : decode cX5_init 116 = .ok (.goto (-24), 3) := by decide +kernel
theorem dX5_init_119 : decode cX5_init 119 = .ok (.aload_n 0, 1) := by decide +kernel
theorem dX5_init_120 : decode cX5_init 120 = .ok (.getfield 16, 3) := by decide +kernel
theorem dX5_init_123 : decode cX5_init 123 = .ok (.new 49, 3) := by decide +kernel
theorem dX5_init_126 : decode cX5_init 126 = .ok (.dup, 1) := by decide +kernel
theorem dX5_init_127 : decode cX5_init 127 = .ok (.iconst 0, 1) := by decide +kernel
theorem dX5_init_128 : decode cX5_init 128 = .ok (.aconst_null, 1) := by decide +kernel
theorem dX5_init_129 : decode cX5_init 129 = .ok (.aload_n 1, 1) := by decide +kernel
theorem dX5_init_130 : decode cX5_init 130 = .ok (.invokespecial 51, 3) := by decide +kernel
theorem dX5_init_133 : decode cX5_init 133 = .ok (.invokevirtual 45, 3) := by decide +kernel
theorem dX5_init_136 : decode cX5_init 136 = .ok (.pop, 1) := by decide +kernel
theorem dX5_init_137 : decode cX5_init 137 = .ok (.return_, 1) := by decide +kernel
set_option maxRecDepth 20000 in
theorem ggX5_slip_X5_requirePlace : GoodIn wsX5_slip wsX5_requirePlace := goodIn_ca (goodIn_r _ [10, 11, 12] (by decide +kernel) (by decide +kernel)) (goodIn_sub (fun _ h => List.mem_cons_of_mem _ (List.mem_append_right _ h)) (by decide +kernel))
set_option maxRecDepth 20000 in
theorem gX5_slip_X5_requirePlace : GoodIn wsX5_slip (va_wsS RX5 54 yX5_requirePlace wsX5_requirePlace) := goodIn_app (goodIn_of _ (by decide +kernel)) ggX5_slip_X5_requirePlace
set_option maxRecDepth 20000 in
theorem ggX5_slip_X1_hasRoomAt : GoodIn wsX5_slip wsX1_hasRoomAt := goodIn_r _ [17, 18, 19, 20, 21, 16, 22, 23, 35, 36] (by decide +kernel) (by decide +kernel)
set_option maxRecDepth 20000 in
theorem gX5_slip_X1_hasRoomAt : GoodIn wsX5_slip (wsV RX5 64 RX1 yX1_hasRoomAt wsX1_hasRoomAt) := goodIn_app (goodIn_of _ (by decide +kernel)) ggX5_slip_X1_hasRoomAt
set_option maxRecDepth 20000 in
theorem ggX5_slip_X1_put : GoodIn wsX5_slip wsX1_put := goodIn_r _ [27, 18, 23, 19, 20, 21, 16, 22, 35, 36] (by decide +kernel) (by decide +kernel)
set_option maxRecDepth 20000 in
theorem gX5_slip_X1_put : GoodIn wsX5_slip (wsV RX5 73 RX1 yX1_put wsX1_put) := goodIn_app (goodIn_of _ (by decide +kernel)) ggX5_slip_X1_put
theorem dX5_slip_0 : decode cX5_slip 0 = .ok (.iload_n 1, 1) := by decide +kernel
theorem dX5_slip_1 : decode cX5_slip 1 = .ok (.invokestatic 54, 3) := by decide +kernel
theorem dX5_slip_4 : decode cX5_slip 4 = .ok (.iload_n 2, 1) := by decide +kernel
theorem dX5_slip_5 : decode cX5_slip 5 = .ok (.iconst (-1), 1) := by decide +kernel
theorem dX5_slip_6 : decode cX5_slip 6 = .ok (.if_icmp .lt 9, 3) := by decide +kernel
theorem dX5_slip_9 : decode cX5_slip 9 = .ok (.iload_n 2, 1) := by decide +kernel
theorem dX5_slip_10 : decode cX5_slip 10 = .ok (.bipush 10, 2) := by decide +kernel
theorem dX5_slip_12 : decode cX5_slip 12 = .ok (.if_icmp .lt 13, 3) := by decide +kernel
theorem dX5_slip_15 : decode cX5_slip 15 = .ok (.new 57, 3) := by decide +kernel
theorem dX5_slip_18 : decode cX5_slip 18 = .ok (.dup, 1) := by decide +kernel
theorem dX5_slip_19 : decode cX5_slip 19 = .ok (.ldc 59, 2) := by decide +kernel
theorem dX5_slip_21 : decode cX5_slip 21 = .ok (.invokespecial 61, 3) := by decide +kernel
theorem dX5_slip_24 : decode cX5_slip 24 = .ok (.athrow, 1) := by decide +kernel
theorem dX5_slip_25 : decode cX5_slip 25 = .ok (.iload_n 2, 1) := by decide +kernel
theorem dX5_slip_26 : decode cX5_slip 26 = .ok (.iconst (-1), 1) := by decide +kernel
theorem dX5_slip_27 : decode cX5_slip 27 = .ok (.if_icmp .eq 24, 3) := by decide +kernel
theorem dX5_slip_30 : decode cX5_slip 30 = .ok (.aload_n 0, 1) := by decide +kernel
theorem dX5_slip_31 : decode cX5_slip 31 = .ok (.getfield 32, 3) := by decide +kernel
theorem dX5_slip_34 : decode cX5_slip 34 = .ok (.iload_n 1, 1) := by decide +kernel
theorem dX5_slip_35 : decode cX5_slip 35 = .ok (.invokevirtual 64, 3) := by decide +kernel
theorem dX5_slip_38 : decode cX5_slip 38 = .ok (.ifCond .ne 13, 3) := by decide +kernel
theorem dX5_slip_41 : decode cX5_slip 41 = .ok (.new 68, 3) := by decide +kernel
theorem dX5_slip_44 : decode cX5_slip 44 = .ok (.dup, 1) := by decide +kernel
theorem dX5_slip_45 : decode cX5_slip 45 = .ok (.ldc 70, 2) := by decide +kernel
theorem dX5_slip_47 : decode cX5_slip 47 = .ok (.invokespecial 72, 3) := by decide +kernel
theorem dX5_slip_50 : decode cX5_slip 50 = .ok (.athrow, 1) := by decide +kernel
theorem dX5_slip_51 : decode cX5_slip 51 = .ok (.aload_n 0, 1) := by decide +kernel
theorem dX5_slip_52 : decode cX5_slip 52 = .ok (.getfield 32, 3) := by decide +kernel
theorem dX5_slip_55 : decode cX5_slip 55 = .ok (.iload_n 1, 1) := by decide +kernel
theorem dX5_slip_56 : decode cX5_slip 56 = .ok (.iload_n 2, 1) := by decide +kernel
theorem dX5_slip_57 : decode cX5_slip 57 = .ok (.invokevirtual 73, 3) := by decide +kernel
theorem dX5_slip_60 : decode cX5_slip 60 = .ok (.aload_n 0, 1) := by decide +kernel
theorem dX5_slip_61 : decode cX5_slip 61 = .ok (.getfield 32, 3) := by decide +kernel
theorem dX5_slip_64 : decode cX5_slip 64 = .ok (.getfield 77, 3) := by decide +kernel
theorem dX5_slip_67 : decode cX5_slip 67 = .ok (.ireturn, 1) := by decide +kernel
set_option maxRecDepth 20000 in
theorem ggX5_copy_X5_findCopy : GoodIn wsX5_copy wsX5_findCopy := goodIn_ca (goodIn_r _ [16, 17, 18, 4, 19, 20, 21, 22, 23, 24, 25, 26, 27, 28, 29, 30, 31, 32, 33, 34, 35, 36, 37, 38, 39, 40, 41, 42, 169, 170, 171, 172, 173, 174, 175, 176, 177, 178] (by decide +kernel) (by decide +kernel)) (goodIn_sub (fun _ h => List.mem_cons_of_mem _ (List.mem_append_right _ h)) (by decide +kernel))
set_option maxRecDepth 20000 in
theorem gX5_copy_X5_findCopy : GoodIn wsX5_copy (wsV RX5 80 RX5 yX5_findCopy wsX5_findCopy) := goodIn_app (goodIn_of _ (by decide +kernel)) ggX5_copy_X5_findCopy
set_option maxRecDepth 20000 in
theorem ggX5_copy_X5_requireScribe : GoodIn wsX5_copy wsX5_requireScribe := goodIn_ca (goodIn_r _ [45, 17, 18] (by decide +kernel) (by decide +kernel)) (goodIn_sub (fun _ h => List.mem_cons_of_mem _ (List.mem_append_right _ h)) (by decide +kernel))
set_option maxRecDepth 20000 in
theorem gX5_copy_X5_requireScribe : GoodIn wsX5_copy (va_wsS RX5 84 yX5_requireScribe wsX5_requireScribe) := goodIn_app (goodIn_of _ (by decide +kernel)) ggX5_copy_X5_requireScribe
set_option maxRecDepth 20000 in
theorem ggX5_copy_X5_findHouse : GoodIn wsX5_copy wsX5_findHouse := goodIn_ca (goodIn_r _ [49, 17, 18, 50, 51, 20, 21, 22, 23, 24, 25, 26, 27, 28, 29, 30, 31, 32, 33, 34, 35, 36, 37, 38, 39, 40, 41, 42, 169, 170, 171, 172, 173, 174, 175, 176, 177, 178] (by decide +kernel) (by decide +kernel)) (goodIn_sub (fun _ h => List.mem_cons_of_mem _ (List.mem_append_right _ h)) (by decide +kernel))
set_option maxRecDepth 20000 in
theorem gX5_copy_X5_findHouse : GoodIn wsX5_copy (wsV RX5 87 RX5 yX5_findHouse wsX5_findHouse) := goodIn_app (goodIn_of _ (by decide +kernel)) ggX5_copy_X5_findHouse
set_option maxRecDepth 20000 in
theorem ggX5_copy_Jx4a65c_size_8abf5 : GoodIn wsX5_copy wsJx4a65c_size_8abf5 := goodIn_r _ [24, 25, 176, 177, 178] (by decide +kernel) (by decide +kernel)
set_option maxRecDepth 20000 in
theorem gX5_copy_Jx4a65c_size_8abf5 : GoodIn wsX5_copy (wsV RX5 97 RJx4a65c yJx4a65c_size_8abf5 wsJx4a65c_size_8abf5) := goodIn_app (goodIn_of _ (by decide +kernel)) ggX5_copy_Jx4a65c_size_8abf5
set_option maxRecDepth 20000 in
theorem ggX5_copy_X0_init : GoodIn wsX5_copy wsX0_init := goodIn_r _ [54, 55, 56, 57, 58, 59, 60, 61, 62, 63, 64, 65, 66, 67, 68, 69, 162, 163, 164, 165, 166, 167, 168] (by decide +kernel) (by decide +kernel)
set_option maxRecDepth 20000 in
theorem gX5_copy_X0_init : GoodIn wsX5_copy (wsX0_init) := ggX5_copy_X0_init
set_option maxRecDepth 20000 in
theorem ggX5_copy_X1_writeInto : GoodIn wsX5_copy wsX1_writeInto := goodIn_r _ [74, 75, 76, 77, 78, 79, 73, 80, 162, 163, 164, 165, 166, 167, 168, 179, 180] (by decide +kernel) (by decide +kernel)
set_option maxRecDepth 20000 in
theorem gX5_copy_X1_writeInto : GoodIn wsX5_copy (wsV RX5 107 RX1 yX1_writeInto wsX1_writeInto) := goodIn_app (goodIn_of _ (by decide +kernel)) ggX5_copy_X1_writeInto
set_option maxRecDepth 20000 in
theorem ggX5_copy_X1_clear : GoodIn wsX5_copy wsX1_clear := goodIn_r _ [84, 76, 85, 86, 87, 88, 89, 179, 180] (by decide +kernel) (by decide +kernel)
set_option maxRecDepth 20000 in
theorem gX5_copy_X1_clear : GoodIn wsX5_copy (wsV RX5 111 RX1 yX1_clear wsX1_clear) := goodIn_app (goodIn_of _ (by decide +kernel)) ggX5_copy_X1_clear
set_option maxRecDepth 20000 in
theorem ggX5_copy_Jx4a65c_add_9ea2d : GoodIn wsX5_copy wsJx4a65c_add_9ea2d := goodIn_r _ [93, 94, 95, 42, 25, 96, 97, 98, 23, 99, 100, 101, 102, 103, 104, 105, 106, 107, 108, 109, 110, 111, 112, 113, 114, 115, 116, 117, 118, 119, 120, 121, 122, 123, 124, 88, 125, 126, 127, 128, 129, 130, 131, 132, 133, 134, 135, 136, 137, 138, 67, 68, 69, 176, 177, 178] (by decide +kernel) (by decide +kernel)
set_option maxRecDepth 20000 in
theorem gX5_copy_Jx4a65c_add_9ea2d : GoodIn wsX5_copy (wsV RX5 45 RJx4a65c yJx4a65c_add_9ea2d wsJx4a65c_add_9ea2d) := goodIn_app (goodIn_of _ (by decide +kernel)) ggX5_copy_Jx4a65c_add_9ea2d
set_option maxRecDepth 20000 in
theorem ggX5_copy_X5_enterFamily : GoodIn wsX5_copy wsX5_enterFamily := goodIn_r _ [142, 11, 143, 4, 19, 20, 21, 22, 23, 24, 25, 26, 27, 28, 29, 30, 31, 32, 33, 34, 35, 36, 37, 38, 39, 40, 41, 42, 144, 145, 146, 7, 147, 148, 149, 150, 151, 60, 62, 152, 153, 154, 155, 59, 156, 157, 158, 15, 159, 160, 136, 111, 137, 161, 110, 112, 162, 163, 164, 165, 166, 167, 168, 169, 170, 171, 172, 173, 174, 175, 176, 177, 178] (by decide +kernel) (by decide +kernel)
set_option maxRecDepth 20000 in
theorem gX5_copy_X5_enterFamily : GoodIn wsX5_copy (wsV RX5 114 RX5 yX5_enterFamily wsX5_enterFamily) := goodIn_app (goodIn_of _ (by decide +kernel)) ggX5_copy_X5_enterFamily
theorem dX5_copy_0 : decode cX5_copy 0 = .ok (.aload_n 0, 1) := by decide +kernel
theorem dX5_copy_1 : decode cX5_copy 1 = .ok (.iload_n 1, 1) := by decide +kernel
theorem dX5_copy_2 : decode cX5_copy 2 = .ok (.invokevirtual 80, 3) := by decide +kernel
theorem dX5_copy_5 : decode cX5_copy 5 = .ok (.astore 5, 2) := by decide +kernel
theorem dX5_copy_7 : decode cX5_copy 7 = .ok (.iload_n 2, 1) := by decide +kernel
theorem dX5_copy_8 : decode cX5_copy 8 = .ok (.invokestatic 84, 3) := by decide +kernel
theorem dX5_copy_11 : decode cX5_copy 11 = .ok (.aload_n 0, 1) := by decide +kernel
theorem dX5_copy_12 : decode cX5_copy 12 = .ok (.iload_n 3, 1) := by decide +kernel
theorem dX5_copy_13 : decode cX5_copy 13 = .ok (.invokevirtual 87, 3) := by decide +kernel
theorem dX5_copy_16 : decode cX5_copy 16 = .ok (.astore 6, 2) := by decide +kernel
theorem dX5_copy_18 : decode cX5_copy 18 = .ok (.aload 5, 2) := by decide +kernel
theorem dX5_copy_20 : decode cX5_copy 20 = .ok (.getfield 91, 3) := by decide +kernel
theorem dX5_copy_23 : decode cX5_copy 23 = .ok (.aload 6, 2) := by decide +kernel
theorem dX5_copy_25 : decode cX5_copy 25 = .ok (.if_acmp .eq 13, 3) := by decide +kernel
theorem dX5_copy_28 : decode cX5_copy 28 = .ok (.new 68, 3) := by decide +kernel
theorem dX5_copy_31 : decode cX5_copy 31 = .ok (.dup, 1) := by decide +kernel
theorem dX5_copy_32 : decode cX5_copy 32 = .ok (.ldc 95, 2) := by decide +kernel
theorem dX5_copy_34 : decode cX5_copy 34 = .ok (.invokespecial 72, 3) := by decide +kernel
theorem dX5_copy_37 : decode cX5_copy 37 = .ok (.athrow, 1) := by decide +kernel
theorem dX5_copy_38 : decode cX5_copy 38 = .ok (.aload_n 0, 1) := by decide +kernel
theorem dX5_copy_39 : decode cX5_copy 39 = .ok (.getfield 16, 3) := by decide +kernel
theorem dX5_copy_42 : decode cX5_copy 42 = .ok (.invokevirtual 97, 3) := by decide +kernel
theorem dX5_copy_45 : decode cX5_copy 45 = .ok (.bipush 40, 2) := by decide +kernel
theorem dX5_copy_47 : decode cX5_copy 47 = .ok (.if_icmp .lt 13, 3) := by decide +kernel
theorem dX5_copy_50 : decode cX5_copy 50 = .ok (.new 68, 3) := by decide +kernel
theorem dX5_copy_53 : decode cX5_copy 53 = .ok (.dup, 1) := by decide +kernel
theorem dX5_copy_54 : decode cX5_copy 54 = .ok (.ldc 101, 2) := by decide +kernel
theorem dX5_copy_56 : decode cX5_copy 56 = .ok (.invokespecial 72, 3) := by decide +kernel
theorem dX5_copy_59 : decode cX5_copy 59 = .ok (.athrow, 1) := by decide +kernel
theorem dX5_copy_60 : decode cX5_copy 60 = .ok (.new 49, 3) := by decide +kernel
theorem dX5_copy_63 : decode cX5_copy 63 = .ok (.dup, 1) := by decide +kernel
theorem dX5_copy_64 : decode cX5_copy 64 = .ok (.aload_n 0, 1) := by decide +kernel
theorem dX5_copy_65 : decode cX5_copy 65 = .ok (.getfield 16, 3) := by decide +kernel
theorem dX5_copy_68 : decode cX5_copy 68 = .ok (.invokevirtual 97, 3) := by decide +kernel
theorem dX5_copy_71 : decode cX5_copy 71 = .ok (.aload 5, 2) := by decide +kernel
theorem dX5_copy_73 : decode cX5_copy 73 = .ok (.aload 6, 2) := by decide +kernel
theorem dX5_copy_75 : decode cX5_copy 75 = .ok (.invokespecial 51, 3) := by decide +kernel
theorem dX5_copy_78 : decode cX5_copy 78 = .ok (.astore 7, 2) := by decide +kernel
theorem dX5_copy_80 : decode cX5_copy 80 = .ok (.aload 7, 2) := by decide +kernel
theorem dX5_copy_82 : decode cX5_copy 82 = .ok (.iload 4, 2) := by decide +kernel
theorem dX5_copy_84 : decode cX5_copy 84 = .ok (.putfield 103, 3) := by decide +kernel
theorem dX5_copy_87 : decode cX5_copy 87 = .ok (.aload_n 0, 1) := by decide +kernel
theorem dX5_copy_88 : decode cX5_copy 88 = .ok (.getfield 25, 3) := by decide +kernel
theorem dX5_copy_91 : decode cX5_copy 91 = .ok (.iload_n 2, 1) := by decide +kernel
theorem dX5_copy_92 : decode cX5_copy 92 = .ok (.dup2, 1) := by decide +kernel
theorem dX5_copy_93 : decode cX5_copy 93 = .ok (.iaload, 1) := by decide +kernel
theorem dX5_copy_94 : decode cX5_copy 94 = .ok (.aload_n 0, 1) := by decide +kernel
theorem dX5_copy_95 : decode cX5_copy 95 = .ok (.getfield 32, 3) := by decide +kernel
theorem dX5_copy_98 : decode cX5_copy 98 = .ok (.aload 7, 2) := by decide +kernel
theorem dX5_copy_100 : decode cX5_copy 100 = .ok (.invokevirtual 107, 3) := by decide +kernel
theorem dX5_copy_103 : decode cX5_copy 103 = .ok (.iadd, 1) := by decide +kernel
theorem dX5_copy_104 : decode cX5_copy 104 = .ok (.iastore, 1) := by decide +kernel
theorem dX5_copy_105 : decode cX5_copy 105 = .ok (.aload_n 0, 1) := by decide +kernel
theorem dX5_copy_106 : decode cX5_copy 106 = .ok (.getfield 32, 3) := by decide +kernel
theorem dX5_copy_109 : decode cX5_copy 109 = .ok (.invokevirtual 111, 3) := by decide +kernel
theorem dX5_copy_112 : decode cX5_copy 112 = .ok (.aload_n 0, 1) := by decide +kernel
theorem dX5_copy_113 : decode cX5_copy 113 = .ok (.getfield 16, 3) := by decide +kernel
theorem dX5_copy_116 : decode cX5_copy 116 = .ok (.aload 7, 2) := by decide +kernel
theorem dX5_copy_118 : decode cX5_copy 118 = .ok (.invokevirtual 45, 3) := by decide +kernel
theorem dX5_copy_121 : decode cX5_copy 121 = .ok (.pop, 1) := by decide +kernel
theorem dX5_copy_122 : decode cX5_copy 122 = .ok (.aload_n 0, 1) := by decide +kernel
theorem dX5_copy_123 : decode cX5_copy 123 = .ok (.aload 7, 2) := by decide +kernel
theorem dX5_copy_125 : decode cX5_copy 125 = .ok (.invokevirtual 114, 3) := by decide +kernel
theorem dX5_copy_128 : decode cX5_copy 128 = .ok (.aload 7, 2) := by decide +kernel
theorem dX5_copy_130 : decode cX5_copy 130 = .ok (.getfield 118, 3) := by decide +kernel
theorem dX5_copy_133 : decode cX5_copy 133 = .ok (.ireturn, 1) := by decide +kernel
set_option maxRecDepth 20000 in
theorem ggX5_tellModel_X5_findCopy : GoodIn wsX5_tellModel wsX5_findCopy := goodIn_ca (goodIn_r _ [10, 11, 12, 13, 14, 15, 16, 17, 18, 19, 20, 21, 22, 23, 24, 25, 26, 27, 28, 29, 30, 31, 32, 33, 34, 35, 36, 37, 56, 57, 58, 59, 60, 61, 62, 63, 64, 65] (by decide +kernel) (by decide +kernel)) (goodIn_sub (fun _ h => List.mem_cons_of_mem _ (List.mem_append_right _ h)) (by decide +kernel))
set_option maxRecDepth 20000 in
theorem gX5_tellModel_X5_findCopy : GoodIn wsX5_tellModel (wsV RX5 80 RX5 yX5_findCopy wsX5_findCopy) := goodIn_app (goodIn_of _ (by decide +kernel)) ggX5_tellModel_X5_findCopy
set_option maxRecDepth 20000 in
theorem ggX5_tellModel_X5_joinFamilies : GoodIn wsX5_tellModel wsX5_joinFamilies := goodIn_r _ [41, 42, 43, 44, 45, 46, 47, 48, 13, 14, 5, 15, 16, 17, 18, 19, 20, 21, 22, 23, 24, 25, 26, 27, 28, 29, 30, 31, 32, 33, 34, 35, 36, 37, 56, 57, 58, 59, 60, 61, 62, 49, 50, 51, 52, 53, 54, 55, 63, 64, 65] (by decide +kernel) (by decide +kernel)
set_option maxRecDepth 20000 in
theorem gX5_tellModel_X5_joinFamilies : GoodIn wsX5_tellModel (wsV RX5 130 RX5 yX5_joinFamilies wsX5_joinFamilies) := goodIn_app (goodIn_of _ (by decide +kernel)) ggX5_tellModel_X5_joinFamilies
theorem dX5_tellModel_0 : decode cX5_tellModel 0 = .ok (.aload_n 0, 1) := by decide +kernel
theorem dX5_tellModel_1 : decode cX5_tellModel 1 = .ok (.iload_n 1, 1) := by decide +kernel
theorem dX5_tellModel_2 : decode cX5_tellModel 2 = .ok (.invokevirtual 80, 3) := by decide +kernel
theorem dX5_tellModel_5 : decode cX5_tellModel 5 = .ok (.astore_n 2, 1) := by decide +kernel
theorem dX5_tellModel_6 : decode cX5_tellModel 6 = .ok (.aload_n 2, 1) := by decide +kernel
theorem dX5_tellModel_7 : decode cX5_tellModel 7 = .ok (.getfield 121, 3) := by decide +kernel
theorem dX5_tellModel_10 : decode cX5_tellModel 10 = .ok (.ifnull 10, 3) := by decide +kernel
theorem dX5_tellModel_13 : decode cX5_tellModel 13 = .ok (.aload_n 2, 1) := by decide +kernel
theorem dX5_tellModel_14 : decode cX5_tellModel 14 = .ok (.getfield 103, 3) := by decide +kernel
theorem dX5_tellModel_17 : decode cX5_tellModel 17 = .ok (.ifCond .eq 13, 3) := by decide +kernel
theorem dX5_tellModel_20 : decode cX5_tellModel 20 = .ok (.new 68, 3) := by decide +kernel
theorem dX5_tellModel_23 : decode cX5_tellModel 23 = .ok (.dup, 1) := by decide +kernel
theorem dX5_tellModel_24 : decode cX5_tellModel 24 = .ok (.ldc 125, 2) := by decide +kernel
theorem dX5_tellModel_26 : decode cX5_tellModel 26 = .ok (.invokespecial 72, 3) := by decide +kernel
theorem dX5_tellModel_29 : decode cX5_tellModel 29 = .ok (.athrow, 1) := by decide +kernel
theorem dX5_tellModel_30 : decode cX5_tellModel 30 = .ok (.aload_n 2, 1) := by decide +kernel
theorem dX5_tellModel_31 : decode cX5_tellModel 31 = .ok (.iconst 1, 1) := by decide +kernel
theorem dX5_tellModel_32 : decode cX5_tellModel 32 = .ok (.putfield 103, 3) := by decide +kernel
theorem dX5_tellModel_35 : decode cX5_tellModel 35 = .ok (.aload_n 0, 1) := by decide +kernel
theorem dX5_tellModel_36 : decode cX5_tellModel 36 = .ok (.aload_n 2, 1) := by decide +kernel
theorem dX5_tellModel_37 : decode cX5_tellModel 37 = .ok (.getfield 127, 3) := by decide +kernel
theorem dX5_tellModel_40 : decode cX5_tellModel 40 = .ok (.aload_n 2, 1) := by decide +kernel
theorem dX5_tellModel_41 : decode cX5_tellModel 41 = .ok (.getfield 121, 3) := by decide +kernel
theorem dX5_tellModel_44 : decode cX5_tellModel 44 = .ok (.getfield 127, 3) := by decide +kernel
theorem dX5_tellModel_47 : decode cX5_tellModel 47 = .ok (.invokevirtual 130, 3) := by decide +kernel
theorem dX5_tellModel_50 : decode cX5_tellModel 50 = .ok (.aload_n 2, 1) := by decide +kernel
theorem dX5_tellModel_51 : decode cX5_tellModel 51 = .ok (.getfield 127, 3) := by decide +kernel
theorem dX5_tellModel_54 : decode cX5_tellModel 54 = .ok (.ireturn, 1) := by decide +kernel
theorem dX5_pass_0 : decode cX5_pass 0 = .ok (.iload_n 1, 1) := by decide +kernel
theorem dX5_pass_1 : decode cX5_pass 1 = .ok (.iconst 1, 1) := by decide +kernel
theorem dX5_pass_2 : decode cX5_pass 2 = .ok (.if_icmp .lt 10, 3) := by decide +kernel
theorem dX5_pass_5 : decode cX5_pass 5 = .ok (.iload_n 1, 1) := by decide +kernel
theorem dX5_pass_6 : decode cX5_pass 6 = .ok (.sipush 200, 3) := by decide +kernel
theorem dX5_pass_9 : decode cX5_pass 9 = .ok (.if_icmp .le 13, 3) := by decide +kernel
theorem dX5_pass_12 : decode cX5_pass 12 = .ok (.new 57, 3) := by decide +kernel
theorem dX5_pass_15 : decode cX5_pass 15 = .ok (.dup, 1) := by decide +kernel
theorem dX5_pass_16 : decode cX5_pass 16 = .ok (.ldc 133, 2) := by decide +kernel
theorem dX5_pass_18 : decode cX5_pass 18 = .ok (.invokespecial 61, 3) := by decide +kernel
theorem dX5_pass_21 : decode cX5_pass 21 = .ok (.athrow, 1) := by decide +kernel
theorem dX5_pass_22 : decode cX5_pass 22 = .ok (.aload_n 0, 1) := by decide +kernel
theorem dX5_pass_23 : decode cX5_pass 23 = .ok (.getfield 36, 3) := by decide +kernel
theorem dX5_pass_26 : decode cX5_pass 26 = .ok (.iload_n 1, 1) := by decide +kernel
theorem dX5_pass_27 : decode cX5_pass 27 = .ok (.iadd, 1) := by decide +kernel
theorem dX5_pass_28 : decode cX5_pass 28 = .ok (.sipush 2000, 3) := by decide +kernel
theorem dX5_pass_31 : decode cX5_pass 31 = .ok (.if_icmp .le 13, 3) := by decide +kernel
theorem dX5_pass_34 : decode cX5_pass 34 = .ok (.new 68, 3) := by decide +kernel
theorem dX5_pass_37 : decode cX5_pass 37 = .ok (.dup, 1) := by decide +kernel
theorem dX5_pass_38 : decode cX5_pass 38 = .ok (.ldc 135, 2) := by decide +kernel
theorem dX5_pass_40 : decode cX5_pass 40 = .ok (.invokespecial 72, 3) := by decide +kernel
theorem dX5_pass_43 : decode cX5_pass 43 = .ok (.athrow, 1) := by decide +kernel
theorem dX5_pass_44 : decode cX5_pass 44 = .ok (.aload_n 0, 1) := by decide +kernel
theorem dX5_pass_45 : decode cX5_pass 45 = .ok (.dup, 1) := by decide +kernel
theorem dX5_pass_46 : decode cX5_pass 46 = .ok (.getfield 36, 3) := by decide +kernel
theorem dX5_pass_49 : decode cX5_pass 49 = .ok (.iload_n 1, 1) := by decide +kernel
theorem dX5_pass_50 : decode cX5_pass 50 = .ok (.iadd, 1) := by decide +kernel
theorem dX5_pass_51 : decode cX5_pass 51 = .ok (.putfield 36, 3) := by decide +kernel
theorem dX5_pass_54 : decode cX5_pass 54 = .ok (.aload_n 0, 1) := by decide +kernel
theorem dX5_pass_55 : decode cX5_pass 55 = .ok (.getfield 36, 3) := by decide +kernel
theorem dX5_pass_58 : decode cX5_pass 58 = .ok (.ireturn, 1) := by decide +kernel
set_option maxRecDepth 20000 in
theorem ggX5_correct_X5_findHouse : GoodIn wsX5_correct wsX5_findHouse := goodIn_ca (goodIn_r _ [13, 14, 15, 16, 17, 18, 19, 20, 21, 22, 23, 24, 25, 26, 27, 28, 29, 30, 31, 32, 33, 34, 35, 36, 37, 38, 39, 40, 157, 158, 159, 160, 161, 162, 163, 167, 168, 169] (by decide +kernel) (by decide +kernel)) (goodIn_sub (fun _ h => List.mem_cons_of_mem _ (List.mem_append_right _ h)) (by decide +kernel))
set_option maxRecDepth 20000 in
theorem gX5_correct_X5_findHouse : GoodIn wsX5_correct (wsV RX5 87 RX5 yX5_findHouse wsX5_findHouse) := goodIn_app (goodIn_of _ (by decide +kernel)) ggX5_correct_X5_findHouse
set_option maxRecDepth 20000 in
theorem ggX5_correct_X5_findCopy : GoodIn wsX5_correct wsX5_findCopy := goodIn_ca (goodIn_r _ [44, 14, 15, 45, 46, 18, 19, 20, 21, 22, 23, 24, 25, 26, 27, 28, 29, 30, 31, 32, 33, 34, 35, 36, 37, 38, 39, 40, 157, 158, 159, 160, 161, 162, 163, 167, 168, 169] (by decide +kernel) (by decide +kernel)) (goodIn_sub (fun _ h => List.mem_cons_of_mem _ (List.mem_append_right _ h)) (by decide +kernel))
set_option maxRecDepth 20000 in
theorem gX5_correct_X5_findCopy : GoodIn wsX5_correct (wsV RX5 80 RX5 yX5_findCopy wsX5_findCopy) := goodIn_app (goodIn_of _ (by decide +kernel)) ggX5_correct_X5_findCopy
set_option maxRecDepth 20000 in
theorem ggX5_correct_X5_requirePlace : GoodIn wsX5_correct wsX5_requirePlace := goodIn_ca (goodIn_r _ [49, 14, 15] (by decide +kernel) (by decide +kernel)) (goodIn_sub (fun _ h => List.mem_cons_of_mem _ (List.mem_append_right _ h)) (by decide +kernel))
set_option maxRecDepth 20000 in
theorem gX5_correct_X5_requirePlace : GoodIn wsX5_correct (va_wsS RX5 54 yX5_requirePlace wsX5_requirePlace) := goodIn_app (goodIn_of _ (by decide +kernel)) ggX5_correct_X5_requirePlace
set_option maxRecDepth 20000 in
theorem ggX5_correct_Jx4a65c_size_8abf5 : GoodIn wsX5_correct wsJx4a65c_size_8abf5 := goodIn_r _ [22, 23, 167, 168, 169] (by decide +kernel) (by decide +kernel)
set_option maxRecDepth 20000 in
theorem gX5_correct_Jx4a65c_size_8abf5 : GoodIn wsX5_correct (wsV RX5 97 RJx4a65c yJx4a65c_size_8abf5 wsJx4a65c_size_8abf5) := goodIn_app (goodIn_of _ (by decide +kernel)) ggX5_correct_Jx4a65c_size_8abf5
set_option maxRecDepth 20000 in
theorem ggX5_correct_X3_init : GoodIn wsX5_correct wsX3_init := goodIn_r _ [52, 53, 54, 55, 56, 57, 58, 164, 165, 166] (by decide +kernel) (by decide +kernel)
set_option maxRecDepth 20000 in
theorem gX5_correct_X3_init : GoodIn wsX5_correct (wsX3_init) := ggX5_correct_X3_init
set_option maxRecDepth 20000 in
theorem ggX5_correct_Jx4a65c_add_9ea2d : GoodIn wsX5_correct wsJx4a65c_add_9ea2d := goodIn_r _ [62, 63, 64, 40, 23, 65, 66, 67, 21, 68, 69, 70, 71, 72, 73, 74, 75, 76, 77, 78, 79, 80, 81, 82, 83, 84, 85, 86, 87, 88, 89, 90, 91, 92, 93, 94, 95, 96, 97, 98, 99, 100, 101, 102, 103, 104, 105, 106, 107, 108, 109, 110, 111, 167, 168, 169] (by decide +kernel) (by decide +kernel)
set_option maxRecDepth 20000 in
theorem gX5_correct_Jx4a65c_add_9ea2d : GoodIn wsX5_correct (wsV RX5 45 RJx4a65c yJx4a65c_add_9ea2d wsJx4a65c_add_9ea2d) := goodIn_app (goodIn_of _ (by decide +kernel)) ggX5_correct_Jx4a65c_add_9ea2d
set_option maxRecDepth 20000 in
theorem ggX5_correct_X2_take : GoodIn wsX5_correct wsX2_take := goodIn_r _ [116, 117, 170, 171, 172, 173] (by decide +kernel) (by decide +kernel)
set_option maxRecDepth 20000 in
theorem gX5_correct_X2_take : GoodIn wsX5_correct (wsV RX5 151 RX2 yX2_take wsX2_take) := goodIn_app (goodIn_of _ (by decide +kernel)) ggX5_correct_X2_take
set_option maxRecDepth 20000 in
theorem ggX5_correct_X5_findFamiliesAnew : GoodIn wsX5_correct wsX5_findFamiliesAnew := goodIn_r _ [121, 45, 46, 18, 19, 20, 21, 22, 23, 24, 25, 26, 27, 28, 29, 30, 31, 32, 33, 34, 35, 36, 37, 38, 39, 40, 122, 123, 124, 12, 125, 126, 127, 128, 129, 130, 131, 132, 133, 134, 135, 136, 137, 138, 139, 140, 141, 142, 143, 144, 145, 146, 147, 148, 106, 80, 107, 149, 79, 81, 157, 158, 159, 160, 161, 162, 163, 167, 168, 169, 150, 151, 152, 153, 154, 155, 156] (by decide +kernel) (by decide +kernel)
set_option maxRecDepth 20000 in
theorem gX5_correct_X5_findFamiliesAnew : GoodIn wsX5_correct (wsV RX5 154 RX5 yX5_findFamiliesAnew wsX5_findFamiliesAnew) := goodIn_app (goodIn_of _ (by decide +kernel)) ggX5_correct_X5_findFamiliesAnew
theorem dX5_correct_0 : decode cX5_correct 0 = .ok (.aload_n 0, 1) := by decide +kernel
theorem dX5_correct_1 : decode cX5_correct 1 = .ok (.iload_n 1, 1) := by decide +kernel
theorem dX5_correct_2 : decode cX5_correct 2 = .ok (.invokevirtual 87, 3) := by decide +kernel
theorem dX5_correct_5 : decode cX5_correct 5 = .ok (.astore 5, 2) := by decide +kernel
theorem dX5_correct_7 : decode cX5_correct 7 = .ok (.aload_n 0, 1) := by decide +kernel
theorem dX5_correct_8 : decode cX5_correct 8 = .ok (.iload_n 2, 1) := by decide +kernel
theorem dX5_correct_9 : decode cX5_correct 9 = .ok (.invokevirtual 80, 3) := by decide +kernel
theorem dX5_correct_12 : decode cX5_correct 12 = .ok (.astore 6, 2) := by decide +kernel
theorem dX5_correct_14 : decode cX5_correct 14 = .ok (.aload_n 0, 1) := by decide +kernel
theorem dX5_correct_15 : decode cX5_correct 15 = .ok (.iload_n 3, 1) := by decide +kernel
theorem dX5_correct_16 : decode cX5_correct 16 = .ok (.invokevirtual 80, 3) := by decide +kernel
theorem dX5_correct_19 : decode cX5_correct 19 = .ok (.astore 7, 2) := by decide +kernel
theorem dX5_correct_21 : decode cX5_correct 21 = .ok (.iload 4, 2) := by decide +kernel
theorem dX5_correct_23 : decode cX5_correct 23 = .ok (.invokestatic 54, 3) := by decide +kernel
theorem dX5_correct_26 : decode cX5_correct 26 = .ok (.aload 6, 2) := by decide +kernel
theorem dX5_correct_28 : decode cX5_correct 28 = .ok (.getfield 91, 3) := by decide +kernel
theorem dX5_correct_31 : decode cX5_correct 31 = .ok (.aload 5, 2) := by decide +kernel
theorem dX5_correct_33 : decode cX5_correct 33 = .ok (.if_acmp .ne 13, 3) := by decide +kernel
theorem dX5_correct_36 : decode cX5_correct 36 = .ok (.aload 7, 2) := by decide +kernel
theorem dX5_correct_38 : decode cX5_correct 38 = .ok (.getfield 91, 3) := by decide +kernel
theorem dX5_correct_41 : decode cX5_correct 41 = .ok (.aload 5, 2) := by decide +kernel
theorem dX5_correct_43 : decode cX5_correct 43 = .ok (.if_acmp .eq 13, 3) := by decide +kernel
theorem dX5_correct_46 : decode cX5_correct 46 = .ok (.new 68, 3) := by decide +kernel
theorem dX5_correct_49 : decode cX5_correct 49 = .ok (.dup, 1) := by decide +kernel
theorem dX5_correct_50 : decode cX5_correct 50 = .ok (.ldc 137, 2) := by decide +kernel
theorem dX5_correct_52 : decode cX5_correct 52 = .ok (.invokespecial 72, 3) := by decide +kernel
theorem dX5_correct_55 : decode cX5_correct 55 = .ok (.athrow, 1) := by decide +kernel
theorem dX5_correct_56 : decode cX5_correct 56 = .ok (.aload 6, 2) := by decide +kernel
theorem dX5_correct_58 : decode cX5_correct 58 = .ok (.getfield 139, 3) := by decide +kernel
theorem dX5_correct_61 : decode cX5_correct 61 = .ok (.iload 4, 2) := by decide +kernel
theorem dX5_correct_63 : decode cX5_correct 63 = .ok (.iaload, 1) := by decide +kernel
theorem dX5_correct_64 : decode cX5_correct 64 = .ok (.istore 8, 2) := by decide +kernel
theorem dX5_correct_66 : decode cX5_correct 66 = .ok (.aload 7, 2) := by decide +kernel
theorem dX5_correct_68 : decode cX5_correct 68 = .ok (.getfield 139, 3) := by decide +kernel
theorem dX5_correct_71 : decode cX5_correct 71 = .ok (.iload 4, 2) := by decide +kernel
theorem dX5_correct_73 : decode cX5_correct 73 = .ok (.iaload, 1) := by decide +kernel
theorem dX5_correct_74 : decode cX5_correct 74 = .ok (.istore 9, 2) := by decide +kernel
theorem dX5_correct_76 : decode cX5_correct 76 = .ok (.iload 8, 2) := by decide +kernel
theorem dX5_correct_78 : decode cX5_correct 78 = .ok (.iload 9, 2) := by decide +kernel
theorem dX5_correct_80 : decode cX5_correct 80 = .ok (.if_icmp .ne 13, 3) := by decide +kernel
theorem dX5_correct_83 : decode cX5_correct 83 = .ok (.new 68, 3) := by decide +kernel
theorem dX5_correct_86 : decode cX5_correct 86 = .ok (.dup, 1) := by decide +kernel
theorem dX5_correct_87 : decode cX5_correct 87 = .ok (.ldc 142, 2) := by decide +kernel
theorem dX5_correct_89 : decode cX5_correct 89 = .ok (.invokespecial 72, 3) := by decide +kernel
theorem dX5_correct_92 : decode cX5_correct 92 = .ok (.athrow, 1) := by decide +kernel
theorem dX5_correct_93 : decode cX5_correct 93 = .ok (.aload_n 0, 1) := by decide +kernel
theorem dX5_correct_94 : decode cX5_correct 94 = .ok (.getfield 19, 3) := by decide +kernel
theorem dX5_correct_97 : decode cX5_correct 97 = .ok (.invokevirtual 97, 3) := by decide +kernel
theorem dX5_correct_100 : decode cX5_correct 100 = .ok (.istore 10, 2) := by decide +kernel
theorem dX5_correct_102 : decode cX5_correct 102 = .ok (.iload 10, 2) := by decide +kernel
theorem dX5_correct_104 : decode cX5_correct 104 = .ok (.bipush 60, 2) := by decide +kernel
theorem dX5_correct_106 : decode cX5_correct 106 = .ok (.if_icmp .lt 13, 3) := by decide +kernel
theorem dX5_correct_109 : decode cX5_correct 109 = .ok (.new 68, 3) := by decide +kernel
theorem dX5_correct_112 : decode cX5_correct 112 = .ok (.dup, 1) := by decide +kernel
theorem dX5_correct_113 : decode cX5_correct 113 = .ok (.ldc 144, 2) := by decide +kernel
theorem dX5_correct_115 : decode cX5_correct 115 = .ok (.invokespecial 72, 3) := by decide +kernel
theorem dX5_correct_118 : decode cX5_correct 118 = .ok (.athrow, 1) := by decide +kernel
theorem dX5_correct_119 : decode cX5_correct 119 = .ok (.aload_n 0, 1) := by decide +kernel
theorem dX5_correct_120 : decode cX5_correct 120 = .ok (.getfield 19, 3) := by decide +kernel
theorem dX5_correct_123 : decode cX5_correct 123 = .ok (.new 146, 3) := by decide +kernel
theorem dX5_correct_126 : decode cX5_correct 126 = .ok (.dup, 1) := by decide +kernel
theorem dX5_correct_127 : decode cX5_correct 127 = .ok (.iload 4, 2) := by decide +kernel
theorem dX5_correct_129 : decode cX5_correct 129 = .ok (.iload 8, 2) := by decide +kernel
theorem dX5_correct_131 : decode cX5_correct 131 = .ok (.iload 9, 2) := by decide +kernel
theorem dX5_correct_133 : decode cX5_correct 133 = .ok (.invokespecial 148, 3) := by decide +kernel
theorem dX5_correct_136 : decode cX5_correct 136 = .ok (.invokevirtual 45, 3) := by decide +kernel
theorem dX5_correct_139 : decode cX5_correct 139 = .ok (.pop, 1) := by decide +kernel
theorem dX5_correct_140 : decode cX5_correct 140 = .ok (.aload 5, 2) := by decide +kernel
theorem dX5_correct_142 : decode cX5_correct 142 = .ok (.iload 10, 2) := by decide +kernel
theorem dX5_correct_144 : decode cX5_correct 144 = .ok (.invokevirtual 151, 3) := by decide +kernel
theorem dX5_correct_147 : decode cX5_correct 147 = .ok (.aload 6, 2) := by decide +kernel
theorem dX5_correct_149 : decode cX5_correct 149 = .ok (.getfield 139, 3) := by decide +kernel
theorem dX5_correct_152 : decode cX5_correct 152 = .ok (.iload 4, 2) := by decide +kernel
theorem dX5_correct_154 : decode cX5_correct 154 = .ok (.iload 9, 2) := by decide +kernel
theorem dX5_correct_156 : decode cX5_correct 156 = .ok (.iastore, 1) := by decide +kernel
theorem dX5_correct_157 : decode cX5_correct 157 = .ok (.aload_n 0, 1) := by decide +kernel
theorem dX5_correct_158 : decode cX5_correct 158 = .ok (.invokevirtual 154, 3) := by decide +kernel
theorem dX5_correct_161 : decode cX5_correct 161 = .ok (.iload 10, 2) := by decide +kernel
theorem dX5_correct_163 : decode cX5_correct 163 = .ok (.ireturn, 1) := by decide +kernel
set_option maxRecDepth 20000 in
theorem ggX5_workIn_X5_findHouse : GoodIn wsX5_workIn wsX5_findHouse := goodIn_ca (goodIn_r _ [10, 11, 12, 13, 14, 15, 16, 17, 18, 19, 20, 21, 22, 23, 24, 25, 26, 27, 28, 29, 30, 31, 32, 33, 34, 35, 36, 37, 103, 104, 105, 106, 107, 108, 109, 110, 111, 112] (by decide +kernel) (by decide +kernel)) (goodIn_sub (fun _ h => List.mem_cons_of_mem _ (List.mem_append_right _ h)) (by decide +kernel))
set_option maxRecDepth 20000 in
theorem gX5_workIn_X5_findHouse : GoodIn wsX5_workIn (wsV RX5 87 RX5 yX5_findHouse wsX5_findHouse) := goodIn_app (goodIn_of _ (by decide +kernel)) ggX5_workIn_X5_findHouse
set_option maxRecDepth 20000 in
theorem ggX5_workIn_X5_findCopy : GoodIn wsX5_workIn wsX5_findCopy := goodIn_ca (goodIn_r _ [41, 11, 12, 42, 43, 15, 16, 17, 18, 19, 20, 21, 22, 23, 24, 25, 26, 27, 28, 29, 30, 31, 32, 33, 34, 35, 36, 37, 103, 104, 105, 106, 107, 108, 109, 110, 111, 112] (by decide +kernel) (by decide +kernel)) (goodIn_sub (fun _ h => List.mem_cons_of_mem _ (List.mem_append_right _ h)) (by decide +kernel))
set_option maxRecDepth 20000 in
theorem gX5_workIn_X5_findCopy : GoodIn wsX5_workIn (wsV RX5 80 RX5 yX5_findCopy wsX5_findCopy) := goodIn_app (goodIn_of _ (by decide +kernel)) ggX5_workIn_X5_findCopy
set_option maxRecDepth 20000 in
theorem ggX5_workIn_Jx4a65c_size_8abf5 : GoodIn wsX5_workIn wsJx4a65c_size_8abf5 := goodIn_r _ [19, 20, 110, 111, 112] (by decide +kernel) (by decide +kernel)
set_option maxRecDepth 20000 in
theorem gX5_workIn_Jx4a65c_size_8abf5 : GoodIn wsX5_workIn (wsV RX5 97 RJx4a65c yJx4a65c_size_8abf5 wsJx4a65c_size_8abf5) := goodIn_app (goodIn_of _ (by decide +kernel)) ggX5_workIn_Jx4a65c_size_8abf5
set_option maxRecDepth 20000 in
theorem ggX5_workIn_X2_holds : GoodIn wsX5_workIn wsX2_holds := goodIn_r _ [48, 49, 113, 114, 115, 116] (by decide +kernel) (by decide +kernel)
set_option maxRecDepth 20000 in
theorem gX5_workIn_X2_holds : GoodIn wsX5_workIn (wsV RX5 159 RX2 yX2_holds wsX2_holds) := goodIn_app (goodIn_of _ (by decide +kernel)) ggX5_workIn_X2_holds
set_option maxRecDepth 20000 in
theorem ggX5_workIn_Jx4a65c_get_915e3 : GoodIn wsX5_workIn wsJx4a65c_get_915e3 := goodIn_r _ [24, 20, 25, 26, 27, 28, 29, 30, 31, 32, 33, 34, 35, 18, 36, 37, 110, 111, 112] (by decide +kernel) (by decide +kernel)
set_option maxRecDepth 20000 in
theorem gX5_workIn_Jx4a65c_get_915e3 : GoodIn wsX5_workIn (wsV RX5 162 RJx4a65c yJx4a65c_get_915e3 wsJx4a65c_get_915e3) := goodIn_app (goodIn_of _ (by decide +kernel)) ggX5_workIn_Jx4a65c_get_915e3
set_option maxRecDepth 20000 in
theorem ggX5_workIn_X3_changes : GoodIn wsX5_workIn wsX3_changes := goodIn_r _ [54, 55, 56, 57, 58, 117, 118, 119, 96, 97, 98, 99, 100, 101, 102] (by decide +kernel) (by decide +kernel)
set_option maxRecDepth 20000 in
theorem gX5_workIn_X3_changes : GoodIn wsX5_workIn (wsV RX5 166 RX3 yX3_changes wsX3_changes) := goodIn_app (goodIn_of _ (by decide +kernel)) ggX5_workIn_X3_changes
set_option maxRecDepth 20000 in
theorem ggX5_workIn_X5_findFamiliesAnew : GoodIn wsX5_workIn wsX5_findFamiliesAnew := goodIn_r _ [62, 42, 43, 15, 16, 17, 18, 19, 20, 21, 22, 23, 24, 25, 26, 27, 28, 29, 30, 31, 32, 33, 34, 35, 36, 37, 63, 64, 65, 9, 66, 67, 68, 69, 70, 71, 72, 73, 74, 75, 76, 77, 78, 79, 80, 81, 82, 83, 84, 85, 86, 87, 88, 89, 90, 91, 92, 93, 94, 95, 103, 104, 105, 106, 107, 108, 109, 110, 111, 112, 96, 97, 98, 99, 100, 101, 102] (by decide +kernel) (by decide +kernel)
set_option maxRecDepth 20000 in
theorem gX5_workIn_X5_findFamiliesAnew : GoodIn wsX5_workIn (wsV RX5 154 RX5 yX5_findFamiliesAnew wsX5_findFamiliesAnew) := goodIn_app (goodIn_of _ (by decide +kernel)) ggX5_workIn_X5_findFamiliesAnew
theorem dX5_workIn_0 : decode cX5_workIn 0 = .ok (.aload_n 0, 1) := by decide +kernel
theorem dX5_workIn_1 : decode cX5_workIn 1 = .ok (.iload_n 1, 1) := by decide +kernel
theorem dX5_workIn_2 : decode cX5_workIn 2 = .ok (.invokevirtual 87, 3) := by decide +kernel
theorem dX5_workIn_5 : decode cX5_workIn 5 = .ok (.astore_n 3, 1) := by decide +kernel
theorem dX5_workIn_6 : decode cX5_workIn 6 = .ok (.aload_n 0, 1) := by decide +kernel
theorem dX5_workIn_7 : decode cX5_workIn 7 = .ok (.iload_n 2, 1) := by decide +kernel
theorem dX5_workIn_8 : decode cX5_workIn 8 = .ok (.invokevirtual 80, 3) := by decide +kernel
theorem dX5_workIn_11 : decode cX5_workIn 11 = .ok (.astore 4, 2) := by decide +kernel
theorem dX5_workIn_13 : decode cX5_workIn 13 = .ok (.aload 4, 2) := by decide +kernel
theorem dX5_workIn_15 : decode cX5_workIn 15 = .ok (.getfield 91, 3) := by decide +kernel
theorem dX5_workIn_18 : decode cX5_workIn 18 = .ok (.aload_n 3, 1) := by decide +kernel
theorem dX5_workIn_19 : decode cX5_workIn 19 = .ok (.if_acmp .eq 13, 3) := by decide +kernel
theorem dX5_workIn_22 : decode cX5_workIn 22 = .ok (.new 68, 3) := by decide +kernel
theorem dX5_workIn_25 : decode cX5_workIn 25 = .ok (.dup, 1) := by decide +kernel
theorem dX5_workIn_26 : decode cX5_workIn 26 = .ok (.ldc 157, 2) := by decide +kernel
theorem dX5_workIn_28 : decode cX5_workIn 28 = .ok (.invokespecial 72, 3) := by decide +kernel
theorem dX5_workIn_31 : decode cX5_workIn 31 = .ok (.athrow, 1) := by decide +kernel
theorem dX5_workIn_32 : decode cX5_workIn 32 = .ok (.iconst 0, 1) := by decide +kernel
theorem dX5_workIn_33 : decode cX5_workIn 33 = .ok (.istore 5, 2) := by decide +kernel
theorem dX5_workIn_35 : decode cX5_workIn 35 = .ok (.iconst 0, 1) := by decide +kernel
theorem dX5_workIn_36 : decode cX5_workIn 36 = .ok (.istore 6, 2) := by decide +kernel
theorem dX5_workIn_38 : decode cX5_workIn 38 = .ok (.iload 6, 2) := by decide +kernel
theorem dX5_workIn_40 : decode cX5_workIn 40 = .ok (.aload_n 0, 1) := by decide +kernel
theorem dX5_workIn_41 : decode cX5_workIn 41 = .ok (.getfield 19, 3) := by decide +kernel
theorem dX5_workIn_44 : decode cX5_workIn 44 = .ok (.invokevirtual 97, 3) := by decide +kernel
theorem dX5_workIn_47 : decode cX5_workIn 47 = .ok (.if_icmp .ge 41, 3) := by decide +kernel
theorem dX5_workIn_50 : decode cX5_workIn 50 = .ok (.aload_n 3, 1) := by decide +kernel
theorem dX5_workIn_51 : decode cX5_workIn 51 = .ok (.iload 6, 2) := by decide +kernel
theorem dX5_workIn_53 : decode cX5_workIn 53 = .ok (.invokevirtual 159, 3) := by decide +kernel
theorem dX5_workIn_56 : decode cX5_workIn 56 = .ok (.ifCond .eq 26, 3) := by decide +kernel
theorem dX5_workIn_59 : decode cX5_workIn 59 = .ok (.aload_n 0, 1) := by decide +kernel
theorem dX5_workIn_60 : decode cX5_workIn 60 = .ok (.getfield 19, 3) := by decide +kernel
theorem dX5_workIn_63 : decode cX5_workIn 63 = .ok (.iload 6, 2) := by decide +kernel
theorem dX5_workIn_65 : decode cX5_workIn 65 = .ok (.invokevirtual 162, 3) := by decide +kernel
theorem dX5_workIn_68 : decode cX5_workIn 68 = .ok (.checkcast 146, 3) := by decide +kernel
theorem dX5_workIn_71 : decode cX5_workIn 71 = .ok (.aload 4, 2) := by decide +kernel
theorem dX5_workIn_73 : decode cX5_workIn 73 = .ok (.invokevirtual 166, 3) := by decide +kernel
theorem dX5_workIn_76 : decode cX5_workIn 76 = .ok (.ifCond .eq 6, 3) := by decide +kernel
theorem dX5_workIn_79 : decode cX5_workIn 79 = .ok (.iinc 5 1, 3) := by decide +kernel
theorem dX5_workIn_82 : decode cX5_workIn 82 = .ok (.iinc 6 1, 3) := by decide +kernel
theorem dX5_workIn_85 : decode cX5_workIn 85 = .ok (.goto (-47), 3) := by decide +kernel
theorem dX5_workIn_88 : decode cX5_workIn 88 = .ok (.iload 5, 2) := by decide +kernel
theorem dX5_workIn_90 : decode cX5_workIn 90 = .ok (.ifCond .le 7, 3) := by decide +kernel
theorem dX5_workIn_93 : decode cX5_workIn 93 = .ok (.aload_n 0, 1) := by decide +kernel
theorem dX5_workIn_94 : decode cX5_workIn 94 = .ok (.invokevirtual 154, 3) := by decide +kernel
theorem dX5_workIn_97 : decode cX5_workIn 97 = .ok (.iload 5, 2) := by decide +kernel
theorem dX5_workIn_99 : decode cX5_workIn 99 = .ok (.ireturn, 1) := by decide +kernel
set_option maxRecDepth 20000 in
theorem ggX5_lend_X5_findCopy : GoodIn wsX5_lend wsX5_findCopy := goodIn_ca (goodIn_r _ [18, 19, 20, 21, 22, 23, 24, 25, 26, 27, 28, 29, 30, 31, 32, 33, 34, 35, 36, 37, 38, 39, 40, 41, 42, 43, 44, 45, 142, 143, 144, 145, 146, 147, 148, 155, 156, 157] (by decide +kernel) (by decide +kernel)) (goodIn_sub (fun _ h => List.mem_cons_of_mem _ (List.mem_append_right _ h)) (by decide +kernel))
set_option maxRecDepth 20000 in
theorem gX5_lend_X5_findCopy : GoodIn wsX5_lend (wsV RX5 80 RX5 yX5_findCopy wsX5_findCopy) := goodIn_app (goodIn_of _ (by decide +kernel)) ggX5_lend_X5_findCopy
set_option maxRecDepth 20000 in
theorem ggX5_lend_X5_findHouse : GoodIn wsX5_lend wsX5_findHouse := goodIn_ca (goodIn_r _ [49, 19, 20, 50, 51, 23, 24, 25, 26, 27, 28, 29, 30, 31, 32, 33, 34, 35, 36, 37, 38, 39, 40, 41, 42, 43, 44, 45, 142, 143, 144, 145, 146, 147, 148, 155, 156, 157] (by decide +kernel) (by decide +kernel)) (goodIn_sub (fun _ h => List.mem_cons_of_mem _ (List.mem_append_right _ h)) (by decide +kernel))
set_option maxRecDepth 20000 in
theorem gX5_lend_X5_findHouse : GoodIn wsX5_lend (wsV RX5 87 RX5 yX5_findHouse wsX5_findHouse) := goodIn_app (goodIn_of _ (by decide +kernel)) ggX5_lend_X5_findHouse
set_option maxRecDepth 20000 in
theorem ggX5_lend_Jx4a65c_size_8abf5 : GoodIn wsX5_lend wsJx4a65c_size_8abf5 := goodIn_r _ [27, 28, 155, 156, 157] (by decide +kernel) (by decide +kernel)
set_option maxRecDepth 20000 in
theorem gX5_lend_Jx4a65c_size_8abf5 : GoodIn wsX5_lend (wsV RX5 97 RJx4a65c yJx4a65c_size_8abf5 wsJx4a65c_size_8abf5) := goodIn_app (goodIn_of _ (by decide +kernel)) ggX5_lend_Jx4a65c_size_8abf5
set_option maxRecDepth 20000 in
theorem ggX5_lend_X4_init : GoodIn wsX5_lend wsX4_init := goodIn_r _ [54, 55, 56, 57, 58, 59, 60, 61, 62, 63, 149, 150, 151, 152, 153, 154] (by decide +kernel) (by decide +kernel)
set_option maxRecDepth 20000 in
theorem gX5_lend_X4_init : GoodIn wsX5_lend (wsX4_init) := ggX5_lend_X4_init
set_option maxRecDepth 20000 in
theorem ggX5_lend_Jx4a65c_add_9ea2d : GoodIn wsX5_lend wsJx4a65c_add_9ea2d := goodIn_r _ [67, 68, 69, 45, 28, 70, 71, 72, 26, 73, 74, 75, 76, 77, 78, 79, 80, 81, 82, 83, 84, 85, 86, 87, 88, 89, 90, 91, 92, 93, 94, 95, 96, 97, 98, 99, 100, 101, 102, 103, 104, 105, 106, 107, 108, 109, 110, 111, 112, 113, 114, 115, 116, 155, 156, 157] (by decide +kernel) (by decide +kernel)
set_option maxRecDepth 20000 in
theorem gX5_lend_Jx4a65c_add_9ea2d : GoodIn wsX5_lend (wsV RX5 45 RJx4a65c yJx4a65c_add_9ea2d wsJx4a65c_add_9ea2d) := goodIn_app (goodIn_of _ (by decide +kernel)) ggX5_lend_Jx4a65c_add_9ea2d
set_option maxRecDepth 20000 in
theorem ggX5_lend_X2_takeLettersOf : GoodIn wsX5_lend wsX2_takeLettersOf := goodIn_r _ [121, 122, 123, 124, 120, 125, 126, 127, 128, 129, 130, 138, 139, 140, 141] (by decide +kernel) (by decide +kernel)
set_option maxRecDepth 20000 in
theorem gX5_lend_X2_takeLettersOf : GoodIn wsX5_lend (wsV RX5 194 RX2 yX2_takeLettersOf wsX2_takeLettersOf) := goodIn_app (goodIn_of _ (by decide +kernel)) ggX5_lend_X2_takeLettersOf
theorem dX5_lend_0 : decode cX5_lend 0 = .ok (.aload_n 0, 1) := by decide +kernel
theorem dX5_lend_1 : decode cX5_lend 1 = .ok (.iload_n 1, 1) := by decide +kernel
theorem dX5_lend_2 : decode cX5_lend 2 = .ok (.invokevirtual 80, 3) := by decide +kernel
theorem dX5_lend_5 : decode cX5_lend 5 = .ok (.astore 5, 2) := by decide +kernel
theorem dX5_lend_7 : decode cX5_lend 7 = .ok (.aload_n 0, 1) := by decide +kernel
theorem dX5_lend_8 : decode cX5_lend 8 = .ok (.iload_n 2, 1) := by decide +kernel
theorem dX5_lend_9 : decode cX5_lend 9 = .ok (.invokevirtual 87, 3) := by decide +kernel
theorem dX5_lend_12 : decode cX5_lend 12 = .ok (.astore 6, 2) := by decide +kernel
theorem dX5_lend_14 : decode cX5_lend 14 = .ok (.iload_n 3, 1) := by decide +kernel
theorem dX5_lend_15 : decode cX5_lend 15 = .ok (.iconst 1, 1) := by decide +kernel
theorem dX5_lend_16 : decode cX5_lend 16 = .ok (.if_icmp .lt 9, 3) := by decide +kernel
theorem dX5_lend_19 : decode cX5_lend 19 = .ok (.iload_n 3, 1) := by decide +kernel
theorem dX5_lend_20 : decode cX5_lend 20 = .ok (.bipush 100, 2) := by decide +kernel
theorem dX5_lend_22 : decode cX5_lend 22 = .ok (.if_icmp .le 13, 3) := by decide +kernel
theorem dX5_lend_25 : decode cX5_lend 25 = .ok (.new 57, 3) := by decide +kernel
theorem dX5_lend_28 : decode cX5_lend 28 = .ok (.dup, 1) := by decide +kernel
theorem dX5_lend_29 : decode cX5_lend 29 = .ok (.ldc 170, 2) := by decide +kernel
theorem dX5_lend_31 : decode cX5_lend 31 = .ok (.invokespecial 61, 3) := by decide +kernel
theorem dX5_lend_34 : decode cX5_lend 34 = .ok (.athrow, 1) := by decide +kernel
theorem dX5_lend_35 : decode cX5_lend 35 = .ok (.iload 4, 2) := by decide +kernel
theorem dX5_lend_37 : decode cX5_lend 37 = .ok (.ifCond .lt 10, 3) := by decide +kernel
theorem dX5_lend_40 : decode cX5_lend 40 = .ok (.iload 4, 2) := by decide +kernel
theorem dX5_lend_42 : decode cX5_lend 42 = .ok (.bipush 50, 2) := by decide +kernel
theorem dX5_lend_44 : decode cX5_lend 44 = .ok (.if_icmp .le 13, 3) := by decide +kernel
theorem dX5_lend_47 : decode cX5_lend 47 = .ok (.new 57, 3) := by decide +kernel
theorem dX5_lend_50 : decode cX5_lend 50 = .ok (.dup, 1) := by decide +kernel
theorem dX5_lend_51 : decode cX5_lend 51 = .ok (.ldc 172, 2) := by decide +kernel
theorem dX5_lend_53 : decode cX5_lend 53 = .ok (.invokespecial 61, 3) := by decide +kernel
theorem dX5_lend_56 : decode cX5_lend 56 = .ok (.athrow, 1) := by decide +kernel
theorem dX5_lend_57 : decode cX5_lend 57 = .ok (.aload 5, 2) := by decide +kernel
theorem dX5_lend_59 : decode cX5_lend 59 = .ok (.getfield 174, 3) := by decide +kernel
theorem dX5_lend_62 : decode cX5_lend 62 = .ok (.aload 6, 2) := by decide +kernel
theorem dX5_lend_64 : decode cX5_lend 64 = .ok (.if_acmp .eq 16, 3) := by decide +kernel
theorem dX5_lend_67 : decode cX5_lend 67 = .ok (.aload 5, 2) := by decide +kernel
theorem dX5_lend_69 : decode cX5_lend 69 = .ok (.getfield 91, 3) := by decide +kernel
theorem dX5_lend_72 : decode cX5_lend 72 = .ok (.aload 5, 2) := by decide +kernel
theorem dX5_lend_74 : decode cX5_lend 74 = .ok (.getfield 174, 3) := by decide +kernel
theorem dX5_lend_77 : decode cX5_lend 77 = .ok (.if_acmp .eq 13, 3) := by decide +kernel
theorem dX5_lend_80 : decode cX5_lend 80 = .ok (.new 68, 3) := by decide +kernel
theorem dX5_lend_83 : decode cX5_lend 83 = .ok (.dup, 1) := by decide +kernel
theorem dX5_lend_84 : decode cX5_lend 84 = .ok (.ldc 177, 2) := by decide +kernel
theorem dX5_lend_86 : decode cX5_lend 86 = .ok (.invokespecial 72, 3) := by decide +kernel
theorem dX5_lend_89 : decode cX5_lend 89 = .ok (.athrow, 1) := by decide +kernel
theorem dX5_lend_90 : decode cX5_lend 90 = .ok (.aload 6, 2) := by decide +kernel
theorem dX5_lend_92 : decode cX5_lend 92 = .ok (.getfield 179, 3) := by decide +kernel
theorem dX5_lend_95 : decode cX5_lend 95 = .ok (.iload 4, 2) := by decide +kernel
theorem dX5_lend_97 : decode cX5_lend 97 = .ok (.if_icmp .ge 13, 3) := by decide +kernel
theorem dX5_lend_100 : decode cX5_lend 100 = .ok (.new 68, 3) := by decide +kernel
theorem dX5_lend_103 : decode cX5_lend 103 = .ok (.dup, 1) := by decide +kernel
theorem dX5_lend_104 : decode cX5_lend 104 = .ok (.ldc 182, 2) := by decide +kernel
theorem dX5_lend_106 : decode cX5_lend 106 = .ok (.invokespecial 72, 3) := by decide +kernel
theorem dX5_lend_109 : decode cX5_lend 109 = .ok (.athrow, 1) := by decide +kernel
theorem dX5_lend_110 : decode cX5_lend 110 = .ok (.aload_n 0, 1) := by decide +kernel
theorem dX5_lend_111 : decode cX5_lend 111 = .ok (.getfield 22, 3) := by decide +kernel
theorem dX5_lend_114 : decode cX5_lend 114 = .ok (.invokevirtual 97, 3) := by decide +kernel
theorem dX5_lend_117 : decode cX5_lend 117 = .ok (.bipush 40, 2) := by decide +kernel
theorem dX5_lend_119 : decode cX5_lend 119 = .ok (.if_icmp .lt 13, 3) := by decide +kernel
theorem dX5_lend_122 : decode cX5_lend 122 = .ok (.new 68, 3) := by decide +kernel
theorem dX5_lend_125 : decode cX5_lend 125 = .ok (.dup, 1) := by decide +kernel
theorem dX5_lend_126 : decode cX5_lend 126 = .ok (.ldc 184, 2) := by decide +kernel
theorem dX5_lend_128 : decode cX5_lend 128 = .ok (.invokespecial 72, 3) := by decide +kernel
theorem dX5_lend_131 : decode cX5_lend 131 = .ok (.athrow, 1) := by decide +kernel
theorem dX5_lend_132 : decode cX5_lend 132 = .ok (.aload_n 0, 1) := by decide +kernel
theorem dX5_lend_133 : decode cX5_lend 133 = .ok (.getfield 22, 3) := by decide +kernel
theorem dX5_lend_136 : decode cX5_lend 136 = .ok (.invokevirtual 97, 3) := by decide +kernel
theorem dX5_lend_139 : decode cX5_lend 139 = .ok (.istore 7, 2) := by decide +kernel
theorem dX5_lend_141 : decode cX5_lend 141 = .ok (.aload_n 0, 1) := by decide +kernel
theorem dX5_lend_142 : decode cX5_lend 142 = .ok (.getfield 22, 3) := by decide +kernel
theorem dX5_lend_145 : decode cX5_lend 145 = .ok (.new 186, 3) := by decide +kernel
theorem dX5_lend_148 : decode cX5_lend 148 = .ok (.dup, 1) := by decide +kernel
theorem dX5_lend_149 : decode cX5_lend 149 = .ok (.aload 5, 2) := by decide +kernel
theorem dX5_lend_151 : decode cX5_lend 151 = .ok (.aload 6, 2) := by decide +kernel
theorem dX5_lend_153 : decode cX5_lend 153 = .ok (.aload_n 0, 1) := by decide +kernel
theorem dX5_lend_154 : decode cX5_lend 154 = .ok (.getfield 36, 3) := by decide +kernel
theorem dX5_lend_157 : decode cX5_lend 157 = .ok (.iload_n 3, 1) := by decide +kernel
theorem dX5_lend_158 : decode cX5_lend 158 = .ok (.iadd, 1) := by decide +kernel
theorem dX5_lend_159 : decode cX5_lend 159 = .ok (.iload 4, 2) := by decide +kernel
theorem dX5_lend_161 : decode cX5_lend 161 = .ok (.invokespecial 188, 3) := by decide +kernel
theorem dX5_lend_164 : decode cX5_lend 164 = .ok (.invokevirtual 45, 3) := by decide +kernel
theorem dX5_lend_167 : decode cX5_lend 167 = .ok (.pop, 1) := by decide +kernel
theorem dX5_lend_168 : decode cX5_lend 168 = .ok (.aload 6, 2) := by decide +kernel
theorem dX5_lend_170 : decode cX5_lend 170 = .ok (.dup, 1) := by decide +kernel
theorem dX5_lend_171 : decode cX5_lend 171 = .ok (.getfield 179, 3) := by decide +kernel
theorem dX5_lend_174 : decode cX5_lend 174 = .ok (.iload 4, 2) := by decide +kernel
theorem dX5_lend_176 : decode cX5_lend 176 = .ok (.isub, 1) := by decide +kernel
theorem dX5_lend_177 : decode cX5_lend 177 = .ok (.putfield 179, 3) := by decide +kernel
theorem dX5_lend_180 : decode cX5_lend 180 = .ok (.aload 6, 2) := by decide +kernel
theorem dX5_lend_182 : decode cX5_lend 182 = .ok (.dup, 1) := by decide +kernel
theorem dX5_lend_183 : decode cX5_lend 183 = .ok (.getfield 191, 3) := by decide +kernel
theorem dX5_lend_186 : decode cX5_lend 186 = .ok (.iload 4, 2) := by decide +kernel
theorem dX5_lend_188 : decode cX5_lend 188 = .ok (.iadd, 1) := by decide +kernel
theorem dX5_lend_189 : decode cX5_lend 189 = .ok (.putfield 191, 3) := by decide +kernel
theorem dX5_lend_192 : decode cX5_lend 192 = .ok (.aload 5, 2) := by decide +kernel
theorem dX5_lend_194 : decode cX5_lend 194 = .ok (.aload 6, 2) := by decide +kernel
theorem dX5_lend_196 : decode cX5_lend 196 = .ok (.putfield 91, 3) := by decide +kernel
theorem dX5_lend_199 : decode cX5_lend 199 = .ok (.aload 6, 2) := by decide +kernel
theorem dX5_lend_201 : decode cX5_lend 201 = .ok (.aload 5, 2) := by decide +kernel
theorem dX5_lend_203 : decode cX5_lend 203 = .ok (.getfield 174, 3) := by decide +kernel
theorem dX5_lend_206 : decode cX5_lend 206 = .ok (.invokevirtual 194, 3) := by decide +kernel
theorem dX5_lend_209 : decode cX5_lend 209 = .ok (.iload 7, 2) := by decide +kernel
theorem dX5_lend_211 : decode cX5_lend 211 = .ok (.ireturn, 1) := by decide +kernel
set_option maxRecDepth 20000 in
theorem ggX5_giveBack_X5_findLoan : GoodIn wsX5_giveBack wsX5_findLoan := goodIn_ca (goodIn_r _ [17, 18, 19, 20, 21, 22, 23, 24, 25, 26, 27, 28, 29, 30, 31, 32, 33, 34, 35, 36, 37, 38, 39, 40, 41, 42, 43, 44, 88, 89, 90, 91, 92, 93, 94, 99, 100, 101] (by decide +kernel) (by decide +kernel)) (goodIn_sub (fun _ h => List.mem_cons_of_mem _ (List.mem_append_right _ h)) (by decide +kernel))
set_option maxRecDepth 20000 in
theorem gX5_giveBack_X5_findLoan : GoodIn wsX5_giveBack (wsV RX5 198 RX5 yX5_findLoan wsX5_findLoan) := goodIn_app (goodIn_of _ (by decide +kernel)) ggX5_giveBack_X5_findLoan
set_option maxRecDepth 20000 in
theorem ggX5_giveBack_X4_lostOn : GoodIn wsX5_giveBack wsX4_lostOn := goodIn_r _ [49, 50, 51, 52, 53, 48, 54, 55, 56, 57, 58, 59, 75, 76, 77, 78, 79, 80] (by decide +kernel) (by decide +kernel)
set_option maxRecDepth 20000 in
theorem gX5_giveBack_X4_lostOn : GoodIn wsX5_giveBack (wsV RX5 213 RX4 yX4_lostOn wsX4_lostOn) := goodIn_app (goodIn_of _ (by decide +kernel)) ggX5_giveBack_X4_lostOn
set_option maxRecDepth 20000 in
theorem ggX5_giveBack_X4_daysLateOn : GoodIn wsX5_giveBack wsX4_daysLateOn := goodIn_r _ [54, 55, 56, 57, 58, 59, 75, 76, 77, 78, 79, 80] (by decide +kernel) (by decide +kernel)
set_option maxRecDepth 20000 in
theorem gX5_giveBack_X4_daysLateOn : GoodIn wsX5_giveBack (wsV RX5 217 RX4 yX4_daysLateOn wsX4_daysLateOn) := goodIn_app (goodIn_of _ (by decide +kernel)) ggX5_giveBack_X4_daysLateOn
set_option maxRecDepth 20000 in
theorem ggX5_giveBack_X2_takeLettersOf : GoodIn wsX5_giveBack wsX2_takeLettersOf := goodIn_r _ [65, 66, 67, 68, 64, 69, 70, 71, 72, 73, 74, 95, 96, 97, 98] (by decide +kernel) (by decide +kernel)
set_option maxRecDepth 20000 in
theorem gX5_giveBack_X2_takeLettersOf : GoodIn wsX5_giveBack (wsV RX5 194 RX2 yX2_takeLettersOf wsX2_takeLettersOf) := goodIn_app (goodIn_of _ (by decide +kernel)) ggX5_giveBack_X2_takeLettersOf
theorem dX5_giveBack_0 : decode cX5_giveBack 0 = .ok (.aload_n 0, 1) := by decide +kernel
theorem dX5_giveBack_1 : decode cX5_giveBack 1 = .ok (.iload_n 1, 1) := by decide +kernel
theorem dX5_giveBack_2 : decode cX5_giveBack 2 = .ok (.invokevirtual 198, 3) := by decide +kernel
theorem dX5_giveBack_5 : decode cX5_giveBack 5 = .ok (.astore_n 2, 1) := by decide +kernel
theorem dX5_giveBack_6 : decode cX5_giveBack 6 = .ok (.aload_n 2, 1) := by decide +kernel
theorem dX5_giveBack_7 : decode cX5_giveBack 7 = .ok (.getfield 202, 3) := by decide +kernel
theorem dX5_giveBack_10 : decode cX5_giveBack 10 = .ok (.ifCond .eq 13, 3) := by decide +kernel
theorem dX5_giveBack_13 : decode cX5_giveBack 13 = .ok (.new 68, 3) := by decide +kernel
theorem dX5_giveBack_16 : decode cX5_giveBack 16 = .ok (.dup, 1) := by decide +kernel
theorem dX5_giveBack_17 : decode cX5_giveBack 17 = .ok (.ldc 205, 2) := by decide +kernel
theorem dX5_giveBack_19 : decode cX5_giveBack 19 = .ok (.invokespecial 72, 3) := by decide +kernel
theorem dX5_giveBack_22 : decode cX5_giveBack 22 = .ok (.athrow, 1) := by decide +kernel
theorem dX5_giveBack_23 : decode cX5_giveBack 23 = .ok (.aload_n 2, 1) := by decide +kernel
theorem dX5_giveBack_24 : decode cX5_giveBack 24 = .ok (.getfield 207, 3) := by decide +kernel
theorem dX5_giveBack_27 : decode cX5_giveBack 27 = .ok (.astore_n 3, 1) := by decide +kernel
theorem dX5_giveBack_28 : decode cX5_giveBack 28 = .ok (.aload_n 2, 1) := by decide +kernel
theorem dX5_giveBack_29 : decode cX5_giveBack 29 = .ok (.getfield 210, 3) := by decide +kernel
theorem dX5_giveBack_32 : decode cX5_giveBack 32 = .ok (.getfield 174, 3) := by decide +kernel
theorem dX5_giveBack_35 : decode cX5_giveBack 35 = .ok (.astore 4, 2) := by decide +kernel
theorem dX5_giveBack_37 : decode cX5_giveBack 37 = .ok (.aload_n 2, 1) := by decide +kernel
theorem dX5_giveBack_38 : decode cX5_giveBack 38 = .ok (.aload_n 0, 1) := by decide +kernel
theorem dX5_giveBack_39 : decode cX5_giveBack 39 = .ok (.getfield 36, 3) := by decide +kernel
theorem dX5_giveBack_42 : decode cX5_giveBack 42 = .ok (.invokevirtual 213, 3) := by decide +kernel
theorem dX5_giveBack_45 : decode cX5_giveBack 45 = .ok (.istore 5, 2) := by decide +kernel
theorem dX5_giveBack_47 : decode cX5_giveBack 47 = .ok (.aload_n 2, 1) := by decide +kernel
theorem dX5_giveBack_48 : decode cX5_giveBack 48 = .ok (.aload_n 2, 1) := by decide +kernel
theorem dX5_giveBack_49 : decode cX5_giveBack 49 = .ok (.aload_n 0, 1) := by decide +kernel
theorem dX5_giveBack_50 : decode cX5_giveBack 50 = .ok (.getfield 36, 3) := by decide +kernel
theorem dX5_giveBack_53 : decode cX5_giveBack 53 = .ok (.invokevirtual 217, 3) := by decide +kernel
theorem dX5_giveBack_56 : decode cX5_giveBack 56 = .ok (.putfield 220, 3) := by decide +kernel
theorem dX5_giveBack_59 : decode cX5_giveBack 59 = .ok (.aload_n 2, 1) := by decide +kernel
theorem dX5_giveBack_60 : decode cX5_giveBack 60 = .ok (.iconst 1, 1) := by decide +kernel
theorem dX5_giveBack_61 : decode cX5_giveBack 61 = .ok (.putfield 202, 3) := by decide +kernel
theorem dX5_giveBack_64 : decode cX5_giveBack 64 = .ok (.aload_n 3, 1) := by decide +kernel
theorem dX5_giveBack_65 : decode cX5_giveBack 65 = .ok (.dup, 1) := by decide +kernel
theorem dX5_giveBack_66 : decode cX5_giveBack 66 = .ok (.getfield 191, 3) := by decide +kernel
theorem dX5_giveBack_69 : decode cX5_giveBack 69 = .ok (.aload_n 2, 1) := by decide +kernel
theorem dX5_giveBack_70 : decode cX5_giveBack 70 = .ok (.getfield 223, 3) := by decide +kernel
theorem dX5_giveBack_73 : decode cX5_giveBack 73 = .ok (.isub, 1) := by decide +kernel
theorem dX5_giveBack_74 : decode cX5_giveBack 74 = .ok (.putfield 191, 3) := by decide +kernel
theorem dX5_giveBack_77 : decode cX5_giveBack 77 = .ok (.aload_n 3, 1) := by decide +kernel
theorem dX5_giveBack_78 : decode cX5_giveBack 78 = .ok (.dup, 1) := by decide +kernel
theorem dX5_giveBack_79 : decode cX5_giveBack 79 = .ok (.getfield 179, 3) := by decide +kernel
theorem dX5_giveBack_82 : decode cX5_giveBack 82 = .ok (.aload_n 2, 1) := by decide +kernel
theorem dX5_giveBack_83 : decode cX5_giveBack 83 = .ok (.getfield 223, 3) := by decide +kernel
theorem dX5_giveBack_86 : decode cX5_giveBack 86 = .ok (.iload 5, 2) := by decide +kernel
theorem dX5_giveBack_88 : decode cX5_giveBack 88 = .ok (.isub, 1) := by decide +kernel
theorem dX5_giveBack_89 : decode cX5_giveBack 89 = .ok (.iadd, 1) := by decide +kernel
theorem dX5_giveBack_90 : decode cX5_giveBack 90 = .ok (.putfield 179, 3) := by decide +kernel
theorem dX5_giveBack_93 : decode cX5_giveBack 93 = .ok (.aload 4, 2) := by decide +kernel
theorem dX5_giveBack_95 : decode cX5_giveBack 95 = .ok (.dup, 1) := by decide +kernel
theorem dX5_giveBack_96 : decode cX5_giveBack 96 = .ok (.getfield 179, 3) := by decide +kernel
theorem dX5_giveBack_99 : decode cX5_giveBack 99 = .ok (.iload 5, 2) := by decide +kernel
theorem dX5_giveBack_101 : decode cX5_giveBack 101 = .ok (.iadd, 1) := by decide +kernel
theorem dX5_giveBack_102 : decode cX5_giveBack 102 = .ok (.putfield 179, 3) := by decide +kernel
theorem dX5_giveBack_105 : decode cX5_giveBack 105 = .ok (.aload_n 2, 1) := by decide +kernel
theorem dX5_giveBack_106 : decode cX5_giveBack 106 = .ok (.getfield 210, 3) := by decide +kernel
theorem dX5_giveBack_109 : decode cX5_giveBack 109 = .ok (.aload 4, 2) := by decide +kernel
theorem dX5_giveBack_111 : decode cX5_giveBack 111 = .ok (.putfield 91, 3) := by decide +kernel
theorem dX5_giveBack_114 : decode cX5_giveBack 114 = .ok (.aload 4, 2) := by decide +kernel
theorem dX5_giveBack_116 : decode cX5_giveBack 116 = .ok (.aload_n 3, 1) := by decide +kernel
theorem dX5_giveBack_117 : decode cX5_giveBack 117 = .ok (.invokevirtual 194, 3) := by decide +kernel
theorem dX5_giveBack_120 : decode cX5_giveBack 120 = .ok (.iload 5, 2) := by decide +kernel
theorem dX5_giveBack_122 : decode cX5_giveBack 122 = .ok (.ireturn, 1) := by decide +kernel
theorem dX5_day_0 : decode cX5_day 0 = .ok (.aload_n 0, 1) := by decide +kernel
theorem dX5_day_1 : decode cX5_day 1 = .ok (.getfield 36, 3) := by decide +kernel
theorem dX5_day_4 : decode cX5_day 4 = .ok (.ireturn, 1) := by decide +kernel
set_option maxRecDepth 20000 in
theorem ggX5_copies_Jx4a65c_size_8abf5 : GoodIn wsX5_copies wsJx4a65c_size_8abf5 := goodIn_r _ [6, 7, 15, 16, 17] (by decide +kernel) (by decide +kernel)
set_option maxRecDepth 20000 in
theorem gX5_copies_Jx4a65c_size_8abf5 : GoodIn wsX5_copies (wsV RX5 97 RJx4a65c yJx4a65c_size_8abf5 wsJx4a65c_size_8abf5) := goodIn_app (goodIn_of _ (by decide +kernel)) ggX5_copies_Jx4a65c_size_8abf5
theorem dX5_copies_0 : decode cX5_copies 0 = .ok (.aload_n 0, 1) := by decide +kernel
theorem dX5_copies_1 : decode cX5_copies 1 = .ok (.getfield 16, 3) := by decide +kernel
theorem dX5_copies_4 : decode cX5_copies 4 = .ok (.invokevirtual 97, 3) := by decide +kernel
theorem dX5_copies_7 : decode cX5_copies 7 = .ok (.ireturn, 1) := by decide +kernel
set_option maxRecDepth 20000 in
theorem ggX5_reading_X5_findCopy : GoodIn wsX5_reading wsX5_findCopy := goodIn_ca (goodIn_r _ [6, 7, 8, 9, 10, 11, 12, 13, 14, 15, 16, 17, 18, 19, 20, 21, 22, 23, 24, 25, 26, 27, 28, 29, 30, 31, 32, 33, 44, 45, 46, 47, 48, 49, 50, 51, 52, 53] (by decide +kernel) (by decide +kernel)) (goodIn_sub (fun _ h => List.mem_cons_of_mem _ (List.mem_append_right _ h)) (by decide +kernel))
set_option maxRecDepth 20000 in
theorem gX5_reading_X5_findCopy : GoodIn wsX5_reading (wsV RX5 80 RX5 yX5_findCopy wsX5_findCopy) := goodIn_app (goodIn_of _ (by decide +kernel)) ggX5_reading_X5_findCopy
set_option maxRecDepth 20000 in
theorem ggX5_reading_X5_requirePlace : GoodIn wsX5_reading wsX5_requirePlace := goodIn_ca (goodIn_r _ [36, 7, 8] (by decide +kernel) (by decide +kernel)) (goodIn_sub (fun _ h => List.mem_cons_of_mem _ (List.mem_append_right _ h)) (by decide +kernel))
set_option maxRecDepth 20000 in
theorem gX5_reading_X5_requirePlace : GoodIn wsX5_reading (va_wsS RX5 54 yX5_requirePlace wsX5_requirePlace) := goodIn_app (goodIn_of _ (by decide +kernel)) ggX5_reading_X5_requirePlace
theorem dX5_reading_0 : decode cX5_reading 0 = .ok (.aload_n 0, 1) := by decide +kernel
theorem dX5_reading_1 : decode cX5_reading 1 = .ok (.iload_n 1, 1) := by decide +kernel
theorem dX5_reading_2 : decode cX5_reading 2 = .ok (.invokevirtual 80, 3) := by decide +kernel
theorem dX5_reading_5 : decode cX5_reading 5 = .ok (.astore_n 3, 1) := by decide +kernel
theorem dX5_reading_6 : decode cX5_reading 6 = .ok (.iload_n 2, 1) := by decide +kernel
theorem dX5_reading_7 : decode cX5_reading 7 = .ok (.invokestatic 54, 3) := by decide +kernel
theorem dX5_reading_10 : decode cX5_reading 10 = .ok (.aload_n 3, 1) := by decide +kernel
theorem dX5_reading_11 : decode cX5_reading 11 = .ok (.getfield 139, 3) := by decide +kernel
theorem dX5_reading_14 : decode cX5_reading 14 = .ok (.iload_n 2, 1) := by decide +kernel
theorem dX5_reading_15 : decode cX5_reading 15 = .ok (.iaload, 1) := by decide +kernel
theorem dX5_reading_16 : decode cX5_reading 16 = .ok (.ireturn, 1) := by decide +kernel
set_option maxRecDepth 20000 in
theorem ggX5_errors_X5_findCopy : GoodIn wsX5_errors wsX5_findCopy := goodIn_ca (goodIn_r _ [5, 6, 7, 8, 9, 10, 11, 12, 13, 14, 15, 16, 17, 18, 19, 20, 21, 22, 23, 24, 25, 26, 27, 28, 29, 30, 31, 32, 43, 44, 45, 46, 47, 48, 49, 50, 51, 52] (by decide +kernel) (by decide +kernel)) (goodIn_sub (fun _ h => List.mem_cons_of_mem _ (List.mem_append_right _ h)) (by decide +kernel))
set_option maxRecDepth 20000 in
theorem gX5_errors_X5_findCopy : GoodIn wsX5_errors (wsV RX5 80 RX5 yX5_findCopy wsX5_findCopy) := goodIn_app (goodIn_of _ (by decide +kernel)) ggX5_errors_X5_findCopy
set_option maxRecDepth 20000 in
theorem ggX5_errors_X0_countErrors : GoodIn wsX5_errors wsX0_countErrors := goodIn_r _ [37, 38, 39, 40, 36, 41, 42, 53, 54, 55, 56, 57, 58, 59] (by decide +kernel) (by decide +kernel)
set_option maxRecDepth 20000 in
theorem gX5_errors_X0_countErrors : GoodIn wsX5_errors (wsV RX5 226 RX0 yX0_countErrors wsX0_countErrors) := goodIn_app (goodIn_of _ (by decide +kernel)) ggX5_errors_X0_countErrors
theorem dX5_errors_0 : decode cX5_errors 0 = .ok (.aload_n 0, 1) := by decide +kernel
theorem dX5_errors_1 : decode cX5_errors 1 = .ok (.iload_n 1, 1) := by decide +kernel
theorem dX5_errors_2 : decode cX5_errors 2 = .ok (.invokevirtual 80, 3) := by decide +kernel
theorem dX5_errors_5 : decode cX5_errors 5 = .ok (.invokevirtual 226, 3) := by decide +kernel
theorem dX5_errors_8 : decode cX5_errors 8 = .ok (.ireturn, 1) := by decide +kernel
set_option maxRecDepth 20000 in
theorem ggX5_shared_X5_findCopy : GoodIn wsX5_shared wsX5_findCopy := goodIn_ca (goodIn_r _ [5, 6, 7, 8, 9, 10, 11, 12, 13, 14, 15, 16, 17, 18, 19, 20, 21, 22, 23, 24, 25, 26, 27, 28, 29, 30, 31, 32, 39, 40, 41, 42, 43, 44, 45, 46, 47, 48] (by decide +kernel) (by decide +kernel)) (goodIn_sub (fun _ h => List.mem_cons_of_mem _ (List.mem_append_right _ h)) (by decide +kernel))
set_option maxRecDepth 20000 in
theorem gX5_shared_X5_findCopy : GoodIn wsX5_shared (wsV RX5 80 RX5 yX5_findCopy wsX5_findCopy) := goodIn_app (goodIn_of _ (by decide +kernel)) ggX5_shared_X5_findCopy
set_option maxRecDepth 20000 in
theorem ggX5_shared_X0_countSharedWith : GoodIn wsX5_shared wsX0_countSharedWith := goodIn_r _ [37, 38, 49, 50, 51, 52, 53, 54, 55] (by decide +kernel) (by decide +kernel)
set_option maxRecDepth 20000 in
theorem gX5_shared_X0_countSharedWith : GoodIn wsX5_shared (wsV RX5 229 RX0 yX0_countSharedWith wsX0_countSharedWith) := goodIn_app (goodIn_of _ (by decide +kernel)) ggX5_shared_X0_countSharedWith
theorem dX5_shared_0 : decode cX5_shared 0 = .ok (.aload_n 0, 1) := by decide +kernel
theorem dX5_shared_1 : decode cX5_shared 1 = .ok (.iload_n 1, 1) := by decide +kernel
theorem dX5_shared_2 : decode cX5_shared 2 = .ok (.invokevirtual 80, 3) := by decide +kernel
theorem dX5_shared_5 : decode cX5_shared 5 = .ok (.astore_n 3, 1) := by decide +kernel
theorem dX5_shared_6 : decode cX5_shared 6 = .ok (.aload_n 3, 1) := by decide +kernel
theorem dX5_shared_7 : decode cX5_shared 7 = .ok (.aload_n 0, 1) := by decide +kernel
theorem dX5_shared_8 : decode cX5_shared 8 = .ok (.iload_n 2, 1) := by decide +kernel
theorem dX5_shared_9 : decode cX5_shared 9 = .ok (.invokevirtual 80, 3) := by decide +kernel
theorem dX5_shared_12 : decode cX5_shared 12 = .ok (.invokevirtual 229, 3) := by decide +kernel
theorem dX5_shared_15 : decode cX5_shared 15 = .ok (.ireturn, 1) := by decide +kernel
set_option maxRecDepth 20000 in
theorem ggX5_houseOf_X5_findCopy : GoodIn wsX5_houseOf wsX5_findCopy := goodIn_ca (goodIn_r _ [7, 8, 9, 10, 11, 12, 13, 14, 15, 16, 17, 18, 19, 20, 21, 22, 23, 24, 25, 26, 27, 28, 29, 30, 31, 32, 33, 34, 46, 47, 48, 49, 50, 51, 52, 53, 54, 55] (by decide +kernel) (by decide +kernel)) (goodIn_sub (fun _ h => List.mem_cons_of_mem _ (List.mem_append_right _ h)) (by decide +kernel))
set_option maxRecDepth 20000 in
theorem gX5_houseOf_X5_findCopy : GoodIn wsX5_houseOf (wsV RX5 80 RX5 yX5_findCopy wsX5_findCopy) := goodIn_app (goodIn_of _ (by decide +kernel)) ggX5_houseOf_X5_findCopy
theorem dX5_houseOf_0 : decode cX5_houseOf 0 = .ok (.aload_n 0, 1) := by decide +kernel
theorem dX5_houseOf_1 : decode cX5_houseOf 1 = .ok (.iload_n 1, 1) := by decide +kernel
theorem dX5_houseOf_2 : decode cX5_houseOf 2 = .ok (.invokevirtual 80, 3) := by decide +kernel
theorem dX5_houseOf_5 : decode cX5_houseOf 5 = .ok (.getfield 91, 3) := by decide +kernel
theorem dX5_houseOf_8 : decode cX5_houseOf 8 = .ok (.getfield 232, 3) := by decide +kernel
theorem dX5_houseOf_11 : decode cX5_houseOf 11 = .ok (.ireturn, 1) := by decide +kernel
set_option maxRecDepth 20000 in
theorem ggX5_ownerOf_X5_findCopy : GoodIn wsX5_ownerOf wsX5_findCopy := goodIn_ca (goodIn_r _ [7, 8, 9, 10, 11, 12, 13, 14, 15, 16, 17, 18, 19, 20, 21, 22, 23, 24, 25, 26, 27, 28, 29, 30, 31, 32, 33, 34, 46, 47, 48, 49, 50, 51, 52, 53, 54, 55] (by decide +kernel) (by decide +kernel)) (goodIn_sub (fun _ h => List.mem_cons_of_mem _ (List.mem_append_right _ h)) (by decide +kernel))
set_option maxRecDepth 20000 in
theorem gX5_ownerOf_X5_findCopy : GoodIn wsX5_ownerOf (wsV RX5 80 RX5 yX5_findCopy wsX5_findCopy) := goodIn_app (goodIn_of _ (by decide +kernel)) ggX5_ownerOf_X5_findCopy
theorem dX5_ownerOf_0 : decode cX5_ownerOf 0 = .ok (.aload_n 0, 1) := by decide +kernel
theorem dX5_ownerOf_1 : decode cX5_ownerOf 1 = .ok (.iload_n 1, 1) := by decide +kernel
theorem dX5_ownerOf_2 : decode cX5_ownerOf 2 = .ok (.invokevirtual 80, 3) := by decide +kernel
theorem dX5_ownerOf_5 : decode cX5_ownerOf 5 = .ok (.getfield 174, 3) := by decide +kernel
theorem dX5_ownerOf_8 : decode cX5_ownerOf 8 = .ok (.getfield 232, 3) := by decide +kernel
theorem dX5_ownerOf_11 : decode cX5_ownerOf 11 = .ok (.ireturn, 1) := by decide +kernel
set_option maxRecDepth 20000 in
theorem ggX5_toldModel_X5_findCopy : GoodIn wsX5_toldModel wsX5_findCopy := goodIn_ca (goodIn_r _ [5, 6, 7, 8, 9, 10, 11, 12, 13, 14, 15, 16, 17, 18, 19, 20, 21, 22, 23, 24, 25, 26, 27, 28, 29, 30, 31, 32, 44, 45, 46, 47, 48, 49, 50, 51, 52, 53] (by decide +kernel) (by decide +kernel)) (goodIn_sub (fun _ h => List.mem_cons_of_mem _ (List.mem_append_right _ h)) (by decide +kernel))
set_option maxRecDepth 20000 in
theorem gX5_toldModel_X5_findCopy : GoodIn wsX5_toldModel (wsV RX5 80 RX5 yX5_findCopy wsX5_findCopy) := goodIn_app (goodIn_of _ (by decide +kernel)) ggX5_toldModel_X5_findCopy
set_option maxRecDepth 20000 in
theorem ggX5_toldModel_X0_modelIfTold : GoodIn wsX5_toldModel wsX0_modelIfTold := goodIn_r _ [37, 38, 39, 54, 55, 56, 57, 58, 59, 60] (by decide +kernel) (by decide +kernel)
set_option maxRecDepth 20000 in
theorem gX5_toldModel_X0_modelIfTold : GoodIn wsX5_toldModel (wsV RX5 233 RX0 yX0_modelIfTold wsX0_modelIfTold) := goodIn_app (goodIn_of _ (by decide +kernel)) ggX5_toldModel_X0_modelIfTold
set_option maxRecDepth 20000 in
theorem ggX5_toldModel_X5_numberOf : GoodIn wsX5_toldModel wsX5_numberOf := goodIn_r _ [42, 43, 54, 55, 56, 57, 58, 59, 60] (by decide +kernel) (by decide +kernel)
set_option maxRecDepth 20000 in
theorem gX5_toldModel_X5_numberOf : GoodIn wsX5_toldModel (va_wsS RX5 237 yX5_numberOf wsX5_numberOf) := goodIn_app (goodIn_of _ (by decide +kernel)) ggX5_toldModel_X5_numberOf
theorem dX5_toldModel_0 : decode cX5_toldModel 0 = .ok (.aload_n 0, 1) := by decide +kernel
theorem dX5_toldModel_1 : decode cX5_toldModel 1 = .ok (.iload_n 1, 1) := by decide +kernel
theorem dX5_toldModel_2 : decode cX5_toldModel 2 = .ok (.invokevirtual 80, 3) := by decide +kernel
theorem dX5_toldModel_5 : decode cX5_toldModel 5 = .ok (.invokevirtual 233, 3) := by decide +kernel
theorem dX5_toldModel_8 : decode cX5_toldModel 8 = .ok (.invokestatic 237, 3) := by decide +kernel
theorem dX5_toldModel_11 : decode cX5_toldModel 11 = .ok (.ireturn, 1) := by decide +kernel
set_option maxRecDepth 20000 in
theorem ggX5_slips_X5_requireScribe : GoodIn wsX5_slips wsX5_requireScribe := goodIn_ca (goodIn_r _ [5, 6, 7] (by decide +kernel) (by decide +kernel)) (goodIn_sub (fun _ h => List.mem_cons_of_mem _ (List.mem_append_right _ h)) (by decide +kernel))
set_option maxRecDepth 20000 in
theorem gX5_slips_X5_requireScribe : GoodIn wsX5_slips (va_wsS RX5 84 yX5_requireScribe wsX5_requireScribe) := goodIn_app (goodIn_of _ (by decide +kernel)) ggX5_slips_X5_requireScribe
theorem dX5_slips_0 : decode cX5_slips 0 = .ok (.iload_n 1, 1) := by decide +kernel
theorem dX5_slips_1 : decode cX5_slips 1 = .ok (.invokestatic 84, 3) := by decide +kernel
theorem dX5_slips_4 : decode cX5_slips 4 = .ok (.aload_n 0, 1) := by decide +kernel
theorem dX5_slips_5 : decode cX5_slips 5 = .ok (.getfield 25, 3) := by decide +kernel
theorem dX5_slips_8 : decode cX5_slips 8 = .ok (.iload_n 1, 1) := by decide +kernel
theorem dX5_slips_9 : decode cX5_slips 9 = .ok (.iaload, 1) := by decide +kernel
theorem dX5_slips_10 : decode cX5_slips 10 = .ok (.ireturn, 1) := by decide +kernel
set_option maxRecDepth 20000 in
theorem ggX5_family_X5_findCopy : GoodIn wsX5_family wsX5_findCopy := goodIn_ca (goodIn_r _ [6, 7, 8, 9, 10, 11, 12, 13, 14, 15, 16, 17, 18, 19, 20, 21, 22, 23, 24, 25, 26, 27, 28, 29, 30, 31, 32, 33, 41, 42, 43, 44, 45, 46, 47, 48, 49, 50] (by decide +kernel) (by decide +kernel)) (goodIn_sub (fun _ h => List.mem_cons_of_mem _ (List.mem_append_right _ h)) (by decide +kernel))
set_option maxRecDepth 20000 in
theorem gX5_family_X5_findCopy : GoodIn wsX5_family (wsV RX5 80 RX5 yX5_findCopy wsX5_findCopy) := goodIn_app (goodIn_of _ (by decide +kernel)) ggX5_family_X5_findCopy
theorem dX5_family_0 : decode cX5_family 0 = .ok (.aload_n 0, 1) := by decide +kernel
theorem dX5_family_1 : decode cX5_family 1 = .ok (.iload_n 1, 1) := by decide +kernel
