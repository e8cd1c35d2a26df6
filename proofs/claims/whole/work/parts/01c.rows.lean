theorem dX0_changeWithParities_7 : decode cX0_changeWithParities 7 = .ok (.aload_n 0, 1) := by decide +kernel
theorem dX0_changeWithParities_8 : decode cX0_changeWithParities 8 = .ok (.aload_n 0, 1) := by decide +kernel
theorem dX0_changeWithParities_9 : decode cX0_changeWithParities 9 = .ok (.invokevirtual 50, 3) := by decide +kernel
theorem dX0_changeWithParities_12 : decode cX0_changeWithParities 12 = .ok (.invokevirtual 100, 3) := by decide +kernel
theorem dX0_changeWithParities_15 : decode cX0_changeWithParities 15 = .ok (.ifCond .ne 13, 3) := by decide +kernel
theorem dX0_changeWithParities_18 : decode cX0_changeWithParities 18 = .ok (.aload_n 0, 1) := by decide +kernel
theorem dX0_changeWithParities_19 : decode cX0_changeWithParities 19 = .ok (.aload_n 0, 1) := by decide +kernel
theorem dX0_changeWithParities_20 : decode cX0_changeWithParities 20 = .ok (.invokevirtual 50, 3) := by decide +kernel
theorem dX0_changeWithParities_23 : decode cX0_changeWithParities 23 = .ok (.iload_n 2, 1) := by decide +kernel
theorem dX0_changeWithParities_24 : decode cX0_changeWithParities 24 = .ok (.iload_n 3, 1) := by decide +kernel
theorem dX0_changeWithParities_25 : decode cX0_changeWithParities 25 = .ok (.invokevirtual 47, 3) := by decide +kernel
theorem dX0_changeWithParities_28 : decode cX0_changeWithParities 28 = .ok (.aload_n 0, 1) := by decide +kernel
theorem dX0_changeWithParities_29 : decode cX0_changeWithParities 29 = .ok (.aload_n 0, 1) := by decide +kernel
theorem dX0_changeWithParities_30 : decode cX0_changeWithParities 30 = .ok (.invokevirtual 57, 3) := by decide +kernel
theorem dX0_changeWithParities_33 : decode cX0_changeWithParities 33 = .ok (.invokevirtual 100, 3) := by decide +kernel
theorem dX0_changeWithParities_36 : decode cX0_changeWithParities 36 = .ok (.ifCond .ne 17, 3) := by decide +kernel
theorem dX0_changeWithParities_39 : decode cX0_changeWithParities 39 = .ok (.aload_n 0, 1) := by decide +kernel
theorem dX0_changeWithParities_40 : decode cX0_changeWithParities 40 = .ok (.aload_n 0, 1) := by decide +kernel
theorem dX0_changeWithParities_41 : decode cX0_changeWithParities 41 = .ok (.invokevirtual 57, 3) := by decide +kernel
theorem dX0_changeWithParities_44 : decode cX0_changeWithParities 44 = .ok (.iload_n 2, 1) := by decide +kernel
theorem dX0_changeWithParities_45 : decode cX0_changeWithParities 45 = .ok (.iload_n 3, 1) := by decide +kernel
theorem dX0_changeWithParities_46 : decode cX0_changeWithParities 46 = .ok (.iload_n 1, 1) := by decide +kernel
theorem dX0_changeWithParities_47 : decode cX0_changeWithParities 47 = .ok (.invokestatic 97, 3) := by decide +kernel
theorem dX0_changeWithParities_50 : decode cX0_changeWithParities 50 = .ok (.invokevirtual 47, 3) := by decide +kernel
theorem dX0_changeWithParities_53 : decode cX0_changeWithParities 53 = .ok (.return_, 1) := by decide +kernel
set_option maxRecDepth 20000 in
theorem ggX0_differenceP_X0_unitP : GoodIn wsX0_differenceP wsX0_unitP := goodIn_r _ [6, 1, 12, 13, 14] (by decide +kernel) (by decide +kernel)
set_option maxRecDepth 20000 in
theorem gX0_differenceP_X0_unitP : GoodIn wsX0_differenceP (wsV RX0 50 RX0 yX0_unitP wsX0_unitP) := goodIn_app (goodIn_of _ (by decide +kernel)) ggX0_differenceP_X0_unitP
set_option maxRecDepth 20000 in
theorem ggX0_differenceP_X0_byteAt : GoodIn wsX0_differenceP wsX0_byteAt := goodIn_r _ [10, 11, 12, 13, 14] (by decide +kernel) (by decide +kernel)
set_option maxRecDepth 20000 in
theorem gX0_differenceP_X0_byteAt : GoodIn wsX0_differenceP (wsV RX0 38 RX0 yX0_byteAt wsX0_byteAt) := goodIn_app (goodIn_of _ (by decide +kernel)) ggX0_differenceP_X0_byteAt
theorem dX0_differenceP_0 : decode cX0_differenceP 0 = .ok (.aload_n 0, 1) := by decide +kernel
theorem dX0_differenceP_1 : decode cX0_differenceP 1 = .ok (.aload_n 0, 1) := by decide +kernel
theorem dX0_differenceP_2 : decode cX0_differenceP 2 = .ok (.invokevirtual 50, 3) := by decide +kernel
theorem dX0_differenceP_5 : decode cX0_differenceP 5 = .ok (.iload_n 1, 1) := by decide +kernel
theorem dX0_differenceP_6 : decode cX0_differenceP 6 = .ok (.invokevirtual 38, 3) := by decide +kernel
theorem dX0_differenceP_9 : decode cX0_differenceP 9 = .ok (.istore_n 2, 1) := by decide +kernel
theorem dX0_differenceP_10 : decode cX0_differenceP 10 = .ok (.iconst 0, 1) := by decide +kernel
theorem dX0_differenceP_11 : decode cX0_differenceP 11 = .ok (.istore_n 3, 1) := by decide +kernel
theorem dX0_differenceP_12 : decode cX0_differenceP 12 = .ok (.iload_n 3, 1) := by decide +kernel
theorem dX0_differenceP_13 : decode cX0_differenceP 13 = .ok (.aload_n 0, 1) := by decide +kernel
theorem dX0_differenceP_14 : decode cX0_differenceP 14 = .ok (.getfield 13, 3) := by decide +kernel
theorem dX0_differenceP_17 : decode cX0_differenceP 17 = .ok (.if_icmp .ge 18, 3) := by decide +kernel
theorem dX0_differenceP_20 : decode cX0_differenceP 20 = .ok (.iload_n 2, 1) := by decide +kernel
theorem dX0_differenceP_21 : decode cX0_differenceP 21 = .ok (.aload_n 0, 1) := by decide +kernel
theorem dX0_differenceP_22 : decode cX0_differenceP 22 = .ok (.iload_n 3, 1) := by decide +kernel
theorem dX0_differenceP_23 : decode cX0_differenceP 23 = .ok (.iload_n 1, 1) := by decide +kernel
theorem dX0_differenceP_24 : decode cX0_differenceP 24 = .ok (.invokevirtual 38, 3) := by decide +kernel
theorem dX0_differenceP_27 : decode cX0_differenceP 27 = .ok (.ixor, 1) := by decide +kernel
theorem dX0_differenceP_28 : decode cX0_differenceP 28 = .ok (.istore_n 2, 1) := by decide +kernel
theorem dX0_differenceP_29 : decode cX0_differenceP 29 = .ok (.iinc 3 1, 3) := by decide +kernel
theorem dX0_differenceP_32 : decode cX0_differenceP 32 = .ok (.goto (-20), 3) := by decide +kernel
theorem dX0_differenceP_35 : decode cX0_differenceP 35 = .ok (.iload_n 2, 1) := by decide +kernel
theorem dX0_differenceP_36 : decode cX0_differenceP 36 = .ok (.ireturn, 1) := by decide +kernel
set_option maxRecDepth 20000 in
theorem ggX0_differenceQ_X0_doubled : GoodIn wsX0_differenceQ wsX0_doubled := goodIn_r _ [5] (by decide +kernel) (by decide +kernel)
set_option maxRecDepth 20000 in
theorem gX0_differenceQ_X0_doubled : GoodIn wsX0_differenceQ (va_wsS RX0 108 yX0_doubled wsX0_doubled) := goodIn_app (goodIn_of _ (by decide +kernel)) ggX0_differenceQ_X0_doubled
set_option maxRecDepth 20000 in
theorem ggX0_differenceQ_X0_byteAt : GoodIn wsX0_differenceQ wsX0_byteAt := goodIn_r _ [9, 10, 15, 16, 17] (by decide +kernel) (by decide +kernel)
set_option maxRecDepth 20000 in
theorem gX0_differenceQ_X0_byteAt : GoodIn wsX0_differenceQ (wsV RX0 38 RX0 yX0_byteAt wsX0_byteAt) := goodIn_app (goodIn_of _ (by decide +kernel)) ggX0_differenceQ_X0_byteAt
set_option maxRecDepth 20000 in
theorem ggX0_differenceQ_X0_unitQ : GoodIn wsX0_differenceQ wsX0_unitQ := goodIn_r _ [14, 1, 15, 16, 17] (by decide +kernel) (by decide +kernel)
set_option maxRecDepth 20000 in
theorem gX0_differenceQ_X0_unitQ : GoodIn wsX0_differenceQ (wsV RX0 57 RX0 yX0_unitQ wsX0_unitQ) := goodIn_app (goodIn_of _ (by decide +kernel)) ggX0_differenceQ_X0_unitQ
theorem dX0_differenceQ_0 : decode cX0_differenceQ 0 = .ok (.iconst 0, 1) := by decide +kernel
theorem dX0_differenceQ_1 : decode cX0_differenceQ 1 = .ok (.istore_n 2, 1) := by decide +kernel
theorem dX0_differenceQ_2 : decode cX0_differenceQ 2 = .ok (.aload_n 0, 1) := by decide +kernel
theorem dX0_differenceQ_3 : decode cX0_differenceQ 3 = .ok (.getfield 13, 3) := by decide +kernel
theorem dX0_differenceQ_6 : decode cX0_differenceQ 6 = .ok (.iconst 1, 1) := by decide +kernel
theorem dX0_differenceQ_7 : decode cX0_differenceQ 7 = .ok (.isub, 1) := by decide +kernel
theorem dX0_differenceQ_8 : decode cX0_differenceQ 8 = .ok (.istore_n 3, 1) := by decide +kernel
theorem dX0_differenceQ_9 : decode cX0_differenceQ 9 = .ok (.iload_n 3, 1) := by decide +kernel
theorem dX0_differenceQ_10 : decode cX0_differenceQ 10 = .ok (.ifCond .lt 21, 3) := by decide +kernel
theorem dX0_differenceQ_13 : decode cX0_differenceQ 13 = .ok (.iload_n 2, 1) := by decide +kernel
theorem dX0_differenceQ_14 : decode cX0_differenceQ 14 = .ok (.invokestatic 108, 3) := by decide +kernel
theorem dX0_differenceQ_17 : decode cX0_differenceQ 17 = .ok (.aload_n 0, 1) := by decide +kernel
theorem dX0_differenceQ_18 : decode cX0_differenceQ 18 = .ok (.iload_n 3, 1) := by decide +kernel
theorem dX0_differenceQ_19 : decode cX0_differenceQ 19 = .ok (.iload_n 1, 1) := by decide +kernel
theorem dX0_differenceQ_20 : decode cX0_differenceQ 20 = .ok (.invokevirtual 38, 3) := by decide +kernel
theorem dX0_differenceQ_23 : decode cX0_differenceQ 23 = .ok (.ixor, 1) := by decide +kernel
theorem dX0_differenceQ_24 : decode cX0_differenceQ 24 = .ok (.istore_n 2, 1) := by decide +kernel
theorem dX0_differenceQ_25 : decode cX0_differenceQ 25 = .ok (.iinc 3 (-1), 3) := by decide +kernel
theorem dX0_differenceQ_28 : decode cX0_differenceQ 28 = .ok (.goto (-19), 3) := by decide +kernel
theorem dX0_differenceQ_31 : decode cX0_differenceQ 31 = .ok (.iload_n 2, 1) := by decide +kernel
theorem dX0_differenceQ_32 : decode cX0_differenceQ 32 = .ok (.aload_n 0, 1) := by decide +kernel
theorem dX0_differenceQ_33 : decode cX0_differenceQ 33 = .ok (.aload_n 0, 1) := by decide +kernel
theorem dX0_differenceQ_34 : decode cX0_differenceQ 34 = .ok (.invokevirtual 57, 3) := by decide +kernel
theorem dX0_differenceQ_37 : decode cX0_differenceQ 37 = .ok (.iload_n 1, 1) := by decide +kernel
theorem dX0_differenceQ_38 : decode cX0_differenceQ 38 = .ok (.invokevirtual 38, 3) := by decide +kernel
theorem dX0_differenceQ_41 : decode cX0_differenceQ 41 = .ok (.ixor, 1) := by decide +kernel
theorem dX0_differenceQ_42 : decode cX0_differenceQ 42 = .ok (.ireturn, 1) := by decide +kernel
set_option maxRecDepth 20000 in
theorem ggX0_offAt_X0_differenceP : GoodIn wsX0_offAt wsX0_differenceP := goodIn_r _ [6, 1, 7, 8, 9, 5, 10, 11, 12, 13, 14, 15, 27, 28, 29] (by decide +kernel) (by decide +kernel)
set_option maxRecDepth 20000 in
theorem gX0_offAt_X0_differenceP : GoodIn wsX0_offAt (wsV RX0 111 RX0 yX0_differenceP wsX0_differenceP) := goodIn_app (goodIn_of _ (by decide +kernel)) ggX0_offAt_X0_differenceP
set_option maxRecDepth 20000 in
theorem ggX0_offAt_X0_differenceQ : GoodIn wsX0_offAt wsX0_differenceQ := goodIn_r _ [19, 1, 20, 21, 5, 22, 11, 12, 13, 14, 15, 23, 24, 25, 26, 27, 28, 29] (by decide +kernel) (by decide +kernel)
set_option maxRecDepth 20000 in
theorem gX0_offAt_X0_differenceQ : GoodIn wsX0_offAt (wsV RX0 114 RX0 yX0_differenceQ wsX0_differenceQ) := goodIn_app (goodIn_of _ (by decide +kernel)) ggX0_offAt_X0_differenceQ
set_option maxRecDepth 20000 in
theorem ggX0_offAt_X0_unitP : GoodIn wsX0_offAt wsX0_unitP := goodIn_r _ [10, 1, 27, 28, 29] (by decide +kernel) (by decide +kernel)
set_option maxRecDepth 20000 in
theorem gX0_offAt_X0_unitP : GoodIn wsX0_offAt (wsV RX0 50 RX0 yX0_unitP wsX0_unitP) := goodIn_app (goodIn_of _ (by decide +kernel)) ggX0_offAt_X0_unitP
set_option maxRecDepth 20000 in
theorem ggX0_offAt_X0_unitQ : GoodIn wsX0_offAt wsX0_unitQ := goodIn_r _ [26, 1, 27, 28, 29] (by decide +kernel) (by decide +kernel)
set_option maxRecDepth 20000 in
theorem gX0_offAt_X0_unitQ : GoodIn wsX0_offAt (wsV RX0 57 RX0 yX0_unitQ wsX0_unitQ) := goodIn_app (goodIn_of _ (by decide +kernel)) ggX0_offAt_X0_unitQ
set_option maxRecDepth 20000 in
theorem ggX0_offAt_X0_doubled : GoodIn wsX0_offAt wsX0_doubled := goodIn_r _ [22] (by decide +kernel) (by decide +kernel)
set_option maxRecDepth 20000 in
theorem gX0_offAt_X0_doubled : GoodIn wsX0_offAt (va_wsS RX0 108 yX0_doubled wsX0_doubled) := goodIn_app (goodIn_of _ (by decide +kernel)) ggX0_offAt_X0_doubled
theorem dX0_offAt_0 : decode cX0_offAt 0 = .ok (.aload_n 0, 1) := by decide +kernel
theorem dX0_offAt_1 : decode cX0_offAt 1 = .ok (.iload_n 1, 1) := by decide +kernel
theorem dX0_offAt_2 : decode cX0_offAt 2 = .ok (.invokevirtual 111, 3) := by decide +kernel
theorem dX0_offAt_5 : decode cX0_offAt 5 = .ok (.istore_n 2, 1) := by decide +kernel
theorem dX0_offAt_6 : decode cX0_offAt 6 = .ok (.aload_n 0, 1) := by decide +kernel
theorem dX0_offAt_7 : decode cX0_offAt 7 = .ok (.iload_n 1, 1) := by decide +kernel
theorem dX0_offAt_8 : decode cX0_offAt 8 = .ok (.invokevirtual 114, 3) := by decide +kernel
theorem dX0_offAt_11 : decode cX0_offAt 11 = .ok (.istore_n 3, 1) := by decide +kernel
theorem dX0_offAt_12 : decode cX0_offAt 12 = .ok (.iload_n 3, 1) := by decide +kernel
theorem dX0_offAt_13 : decode cX0_offAt 13 = .ok (.ifCond .ne 17, 3) := by decide +kernel
theorem dX0_offAt_16 : decode cX0_offAt 16 = .ok (.iload_n 2, 1) := by decide +kernel
theorem dX0_offAt_17 : decode cX0_offAt 17 = .ok (.ifCond .ne 8, 3) := by decide +kernel
theorem dX0_offAt_20 : decode cX0_offAt 20 = .ok (.bipush (-2), 2) := by decide +kernel
theorem dX0_offAt_22 : decode cX0_offAt 22 = .ok (.goto 7, 3) := by decide +kernel
theorem dX0_offAt_25 : decode cX0_offAt 25 = .ok (.aload_n 0, 1) := by decide +kernel
theorem dX0_offAt_26 : decode cX0_offAt 26 = .ok (.invokevirtual 50, 3) := by decide +kernel
theorem dX0_offAt_29 : decode cX0_offAt 29 = .ok (.ireturn, 1) := by decide +kernel
theorem dX0_offAt_30 : decode cX0_offAt 30 = .ok (.iload_n 2, 1) := by decide +kernel
theorem dX0_offAt_31 : decode cX0_offAt 31 = .ok (.ifCond .ne 8, 3) := by decide +kernel
theorem dX0_offAt_34 : decode cX0_offAt 34 = .ok (.aload_n 0, 1) := by decide +kernel
theorem dX0_offAt_35 : decode cX0_offAt 35 = .ok (.invokevirtual 57, 3) := by decide +kernel
theorem dX0_offAt_38 : decode cX0_offAt 38 = .ok (.ireturn, 1) := by decide +kernel
theorem dX0_offAt_39 : decode cX0_offAt 39 = .ok (.iload_n 2, 1) := by decide +kernel
theorem dX0_offAt_40 : decode cX0_offAt 40 = .ok (.istore 4, 2) := by decide +kernel
theorem dX0_offAt_42 : decode cX0_offAt 42 = .ok (.iconst 0, 1) := by decide +kernel
theorem dX0_offAt_43 : decode cX0_offAt 43 = .ok (.istore 5, 2) := by decide +kernel
theorem dX0_offAt_45 : decode cX0_offAt 45 = .ok (.iload 5, 2) := by decide +kernel
theorem dX0_offAt_47 : decode cX0_offAt 47 = .ok (.aload_n 0, 1) := by decide +kernel
theorem dX0_offAt_48 : decode cX0_offAt 48 = .ok (.getfield 13, 3) := by decide +kernel
theorem dX0_offAt_51 : decode cX0_offAt 51 = .ok (.if_icmp .ge 25, 3) := by decide +kernel
theorem dX0_offAt_54 : decode cX0_offAt 54 = .ok (.iload 4, 2) := by decide +kernel
theorem dX0_offAt_56 : decode cX0_offAt 56 = .ok (.iload_n 3, 1) := by decide +kernel
theorem dX0_offAt_57 : decode cX0_offAt 57 = .ok (.if_icmp .ne 6, 3) := by decide +kernel
theorem dX0_offAt_60 : decode cX0_offAt 60 = .ok (.iload 5, 2) := by decide +kernel
theorem dX0_offAt_62 : decode cX0_offAt 62 = .ok (.ireturn, 1) := by decide +kernel
theorem dX0_offAt_63 : decode cX0_offAt 63 = .ok (.iload 4, 2) := by decide +kernel
theorem dX0_offAt_65 : decode cX0_offAt 65 = .ok (.invokestatic 108, 3) := by decide +kernel
theorem dX0_offAt_68 : decode cX0_offAt 68 = .ok (.istore 4, 2) := by decide +kernel
theorem dX0_offAt_70 : decode cX0_offAt 70 = .ok (.iinc 5 1, 3) := by decide +kernel
theorem dX0_offAt_73 : decode cX0_offAt 73 = .ok (.goto (-28), 3) := by decide +kernel
theorem dX0_offAt_76 : decode cX0_offAt 76 = .ok (.bipush (-3), 2) := by decide +kernel
theorem dX0_offAt_78 : decode cX0_offAt 78 = .ok (.ireturn, 1) := by decide +kernel
set_option maxRecDepth 20000 in
theorem ggX0_restoreOne_X0_unitQ : GoodIn wsX0_restoreOne wsX0_unitQ := goodIn_r _ [5, 6, 48, 49, 50] (by decide +kernel) (by decide +kernel)
set_option maxRecDepth 20000 in
theorem gX0_restoreOne_X0_unitQ : GoodIn wsX0_restoreOne (wsV RX0 57 RX0 yX0_unitQ wsX0_unitQ) := goodIn_app (goodIn_of _ (by decide +kernel)) ggX0_restoreOne_X0_unitQ
set_option maxRecDepth 20000 in
theorem ggX0_restoreOne_X0_restoreByQ : GoodIn wsX0_restoreOne wsX0_restoreByQ := goodIn_r _ [10, 1, 2, 3, 4, 5, 6, 11, 12, 13, 14, 15, 16, 17, 18, 19, 20, 21, 22, 23, 24, 25, 26, 27, 28, 29, 30, 31, 32, 33, 34, 35, 48, 49, 50] (by decide +kernel) (by decide +kernel)
set_option maxRecDepth 20000 in
theorem gX0_restoreOne_X0_restoreByQ : GoodIn wsX0_restoreOne (wsV RX0 60 RX0 yX0_restoreByQ wsX0_restoreByQ) := goodIn_app (goodIn_of _ (by decide +kernel)) ggX0_restoreOne_X0_restoreByQ
set_option maxRecDepth 20000 in
theorem ggX0_restoreOne_X0_restoreByP : GoodIn wsX0_restoreOne wsX0_restoreByP := goodIn_r _ [39, 40, 41, 42, 4, 43, 6, 44, 45, 46, 47, 27, 28, 29, 30, 31, 32, 33, 34, 35, 48, 49, 50] (by decide +kernel) (by decide +kernel)
set_option maxRecDepth 20000 in
theorem gX0_restoreOne_X0_restoreByP : GoodIn wsX0_restoreOne (wsV RX0 53 RX0 yX0_restoreByP wsX0_restoreByP) := goodIn_app (goodIn_of _ (by decide +kernel)) ggX0_restoreOne_X0_restoreByP
theorem dX0_restoreOne_0 : decode cX0_restoreOne 0 = .ok (.iload_n 1, 1) := by decide +kernel
theorem dX0_restoreOne_1 : decode cX0_restoreOne 1 = .ok (.aload_n 0, 1) := by decide +kernel
theorem dX0_restoreOne_2 : decode cX0_restoreOne 2 = .ok (.invokevirtual 57, 3) := by decide +kernel
theorem dX0_restoreOne_5 : decode cX0_restoreOne 5 = .ok (.if_icmp .ne 11, 3) := by decide +kernel
theorem dX0_restoreOne_8 : decode cX0_restoreOne 8 = .ok (.aload_n 0, 1) := by decide +kernel
theorem dX0_restoreOne_9 : decode cX0_restoreOne 9 = .ok (.iload_n 1, 1) := by decide +kernel
theorem dX0_restoreOne_10 : decode cX0_restoreOne 10 = .ok (.invokevirtual 60, 3) := by decide +kernel
theorem dX0_restoreOne_13 : decode cX0_restoreOne 13 = .ok (.goto 8, 3) := by decide +kernel
theorem dX0_restoreOne_16 : decode cX0_restoreOne 16 = .ok (.aload_n 0, 1) := by decide +kernel
theorem dX0_restoreOne_17 : decode cX0_restoreOne 17 = .ok (.iload_n 1, 1) := by decide +kernel
theorem dX0_restoreOne_18 : decode cX0_restoreOne 18 = .ok (.invokevirtual 53, 3) := by decide +kernel
theorem dX0_restoreOne_21 : decode cX0_restoreOne 21 = .ok (.return_, 1) := by decide +kernel
set_option maxRecDepth 20000 in
theorem ggX0_restoreTwo_X0_unitQ : GoodIn wsX0_restoreTwo wsX0_unitQ := goodIn_r _ [5, 6, 52, 53, 54] (by decide +kernel) (by decide +kernel)
set_option maxRecDepth 20000 in
theorem gX0_restoreTwo_X0_unitQ : GoodIn wsX0_restoreTwo (wsV RX0 57 RX0 yX0_unitQ wsX0_unitQ) := goodIn_app (goodIn_of _ (by decide +kernel)) ggX0_restoreTwo_X0_unitQ
set_option maxRecDepth 20000 in
theorem ggX0_restoreTwo_X0_restoreByP : GoodIn wsX0_restoreTwo wsX0_restoreByP := goodIn_r _ [10, 11, 12, 13, 4, 14, 6, 15, 16, 17, 18, 19, 20, 21, 22, 23, 24, 25, 26, 27, 52, 53, 54] (by decide +kernel) (by decide +kernel)
set_option maxRecDepth 20000 in
theorem gX0_restoreTwo_X0_restoreByP : GoodIn wsX0_restoreTwo (wsV RX0 53 RX0 yX0_restoreByP wsX0_restoreByP) := goodIn_app (goodIn_of _ (by decide +kernel)) ggX0_restoreTwo_X0_restoreByP
set_option maxRecDepth 20000 in
theorem ggX0_restoreTwo_X0_restoreByQ : GoodIn wsX0_restoreTwo wsX0_restoreByQ := goodIn_r _ [31, 1, 2, 3, 4, 5, 6, 32, 33, 34, 35, 36, 37, 38, 39, 40, 41, 42, 43, 44, 45, 46, 47, 19, 20, 21, 22, 23, 24, 25, 26, 27, 52, 53, 54] (by decide +kernel) (by decide +kernel)
set_option maxRecDepth 20000 in
theorem gX0_restoreTwo_X0_restoreByQ : GoodIn wsX0_restoreTwo (wsV RX0 60 RX0 yX0_restoreByQ wsX0_restoreByQ) := goodIn_app (goodIn_of _ (by decide +kernel)) ggX0_restoreTwo_X0_restoreByQ
set_option maxRecDepth 20000 in
theorem ggX0_restoreTwo_X0_unitP : GoodIn wsX0_restoreTwo wsX0_unitP := goodIn_r _ [18, 6, 52, 53, 54] (by decide +kernel) (by decide +kernel)
set_option maxRecDepth 20000 in
theorem gX0_restoreTwo_X0_unitP : GoodIn wsX0_restoreTwo (wsV RX0 50 RX0 yX0_unitP wsX0_unitP) := goodIn_app (goodIn_of _ (by decide +kernel)) ggX0_restoreTwo_X0_unitP
set_option maxRecDepth 20000 in
theorem ggX0_restoreTwo_X0_restoreDataPair : GoodIn wsX0_restoreTwo wsX0_restoreDataPair := goodIn_r _ [51, 32, 33, 4, 34, 35, 36, 37, 38, 39, 40, 41, 42, 43, 11, 12, 13, 14, 6, 15, 16, 17, 18, 19, 20, 21, 22, 23, 44, 45, 46, 47, 1, 2, 3, 5, 24, 25, 26, 27, 52, 53, 54] (by decide +kernel) (by decide +kernel)
set_option maxRecDepth 20000 in
theorem gX0_restoreTwo_X0_restoreDataPair : GoodIn wsX0_restoreTwo (wsV RX0 117 RX0 yX0_restoreDataPair wsX0_restoreDataPair) := goodIn_app (goodIn_of _ (by decide +kernel)) ggX0_restoreTwo_X0_restoreDataPair
theorem dX0_restoreTwo_0 : decode cX0_restoreTwo 0 = .ok (.iload_n 2, 1) := by decide +kernel
theorem dX0_restoreTwo_1 : decode cX0_restoreTwo 1 = .ok (.aload_n 0, 1) := by decide +kernel
theorem dX0_restoreTwo_2 : decode cX0_restoreTwo 2 = .ok (.invokevirtual 57, 3) := by decide +kernel
theorem dX0_restoreTwo_5 : decode cX0_restoreTwo 5 = .ok (.if_icmp .ne 16, 3) := by decide +kernel
theorem dX0_restoreTwo_8 : decode cX0_restoreTwo 8 = .ok (.aload_n 0, 1) := by decide +kernel
theorem dX0_restoreTwo_9 : decode cX0_restoreTwo 9 = .ok (.iload_n 1, 1) := by decide +kernel
theorem dX0_restoreTwo_10 : decode cX0_restoreTwo 10 = .ok (.invokevirtual 53, 3) := by decide +kernel
theorem dX0_restoreTwo_13 : decode cX0_restoreTwo 13 = .ok (.aload_n 0, 1) := by decide +kernel
theorem dX0_restoreTwo_14 : decode cX0_restoreTwo 14 = .ok (.iload_n 2, 1) := by decide +kernel
theorem dX0_restoreTwo_15 : decode cX0_restoreTwo 15 = .ok (.invokevirtual 60, 3) := by decide +kernel
theorem dX0_restoreTwo_18 : decode cX0_restoreTwo 18 = .ok (.goto 30, 3) := by decide +kernel
theorem dX0_restoreTwo_21 : decode cX0_restoreTwo 21 = .ok (.iload_n 2, 1) := by decide +kernel
theorem dX0_restoreTwo_22 : decode cX0_restoreTwo 22 = .ok (.aload_n 0, 1) := by decide +kernel
theorem dX0_restoreTwo_23 : decode cX0_restoreTwo 23 = .ok (.invokevirtual 50, 3) := by decide +kernel
theorem dX0_restoreTwo_26 : decode cX0_restoreTwo 26 = .ok (.if_icmp .ne 16, 3) := by decide +kernel
theorem dX0_restoreTwo_29 : decode cX0_restoreTwo 29 = .ok (.aload_n 0, 1) := by decide +kernel
theorem dX0_restoreTwo_30 : decode cX0_restoreTwo 30 = .ok (.iload_n 1, 1) := by decide +kernel
theorem dX0_restoreTwo_31 : decode cX0_restoreTwo 31 = .ok (.invokevirtual 60, 3) := by decide +kernel
theorem dX0_restoreTwo_34 : decode cX0_restoreTwo 34 = .ok (.aload_n 0, 1) := by decide +kernel
theorem dX0_restoreTwo_35 : decode cX0_restoreTwo 35 = .ok (.iload_n 2, 1) := by decide +kernel
theorem dX0_restoreTwo_36 : decode cX0_restoreTwo 36 = .ok (.invokevirtual 53, 3) := by decide +kernel
theorem dX0_restoreTwo_39 : decode cX0_restoreTwo 39 = .ok (.goto 9, 3) := by decide +kernel
theorem dX0_restoreTwo_42 : decode cX0_restoreTwo 42 = .ok (.aload_n 0, 1) := by decide +kernel
theorem dX0_restoreTwo_43 : decode cX0_restoreTwo 43 = .ok (.iload_n 1, 1) := by decide +kernel
theorem dX0_restoreTwo_44 : decode cX0_restoreTwo 44 = .ok (.iload_n 2, 1) := by decide +kernel
theorem dX0_restoreTwo_45 : decode cX0_restoreTwo 45 = .ok (.invokevirtual 117, 3) := by decide +kernel
theorem dX0_restoreTwo_48 : decode cX0_restoreTwo 48 = .ok (.return_, 1) := by decide +kernel
set_option maxRecDepth 20000 in
theorem ggX0_restoreByP_X0_differenceP : GoodIn wsX0_restoreByP wsX0_differenceP := goodIn_r _ [5, 6, 7, 8, 9, 4, 10, 11, 12, 13, 14, 15, 20, 21, 22] (by decide +kernel) (by decide +kernel)
set_option maxRecDepth 20000 in
theorem gX0_restoreByP_X0_differenceP : GoodIn wsX0_restoreByP (wsV RX0 111 RX0 yX0_differenceP wsX0_differenceP) := goodIn_app (goodIn_of _ (by decide +kernel)) ggX0_restoreByP_X0_differenceP
set_option maxRecDepth 20000 in
theorem ggX0_restoreByP_X0_change : GoodIn wsX0_restoreByP wsX0_change := goodIn_r _ [19, 15, 20, 21, 22] (by decide +kernel) (by decide +kernel)
set_option maxRecDepth 20000 in
theorem gX0_restoreByP_X0_change : GoodIn wsX0_restoreByP (wsV RX0 47 RX0 yX0_change wsX0_change) := goodIn_app (goodIn_of _ (by decide +kernel)) ggX0_restoreByP_X0_change
theorem dX0_restoreByP_0 : decode cX0_restoreByP 0 = .ok (.iconst 0, 1) := by decide +kernel
theorem dX0_restoreByP_1 : decode cX0_restoreByP 1 = .ok (.istore_n 2, 1) := by decide +kernel
theorem dX0_restoreByP_2 : decode cX0_restoreByP 2 = .ok (.iload_n 2, 1) := by decide +kernel
theorem dX0_restoreByP_3 : decode cX0_restoreByP 3 = .ok (.bipush 64, 2) := by decide +kernel
theorem dX0_restoreByP_5 : decode cX0_restoreByP 5 = .ok (.if_icmp .ge 20, 3) := by decide +kernel
theorem dX0_restoreByP_8 : decode cX0_restoreByP 8 = .ok (.aload_n 0, 1) := by decide +kernel
theorem dX0_restoreByP_9 : decode cX0_restoreByP 9 = .ok (.iload_n 1, 1) := by decide +kernel
theorem dX0_restoreByP_10 : decode cX0_restoreByP 10 = .ok (.iload_n 2, 1) := by decide +kernel
theorem dX0_restoreByP_11 : decode cX0_restoreByP 11 = .ok (.aload_n 0, 1) := by decide +kernel
theorem dX0_restoreByP_12 : decode cX0_restoreByP 12 = .ok (.iload_n 2, 1) := by decide +kernel
theorem dX0_restoreByP_13 : decode cX0_restoreByP 13 = .ok (.invokevirtual 111, 3) := by decide +kernel
theorem dX0_restoreByP_16 : decode cX0_restoreByP 16 = .ok (.invokevirtual 47, 3) := by decide +kernel
theorem dX0_restoreByP_19 : decode cX0_restoreByP 19 = .ok (.iinc 2 1, 3) := by decide +kernel
theorem dX0_restoreByP_22 : decode cX0_restoreByP 22 = .ok (.goto (-20), 3) := by decide +kernel
theorem dX0_restoreByP_25 : decode cX0_restoreByP 25 = .ok (.return_, 1) := by decide +kernel
set_option maxRecDepth 20000 in
theorem ggX0_restoreByQ_X0_unitQ : GoodIn wsX0_restoreByQ wsX0_unitQ := goodIn_r _ [5, 6, 32, 33, 34] (by decide +kernel) (by decide +kernel)
set_option maxRecDepth 20000 in
theorem gX0_restoreByQ_X0_unitQ : GoodIn wsX0_restoreByQ (wsV RX0 57 RX0 yX0_unitQ wsX0_unitQ) := goodIn_app (goodIn_of _ (by decide +kernel)) ggX0_restoreByQ_X0_unitQ
set_option maxRecDepth 20000 in
theorem ggX0_restoreByQ_X0_timesPower : GoodIn wsX0_restoreByQ wsX0_timesPower := goodIn_r _ [9, 10, 11, 4, 12] (by decide +kernel) (by decide +kernel)
set_option maxRecDepth 20000 in
theorem gX0_restoreByQ_X0_timesPower : GoodIn wsX0_restoreByQ (va_wsS RX0 97 yX0_timesPower wsX0_timesPower) := goodIn_app (goodIn_of _ (by decide +kernel)) ggX0_restoreByQ_X0_timesPower
set_option maxRecDepth 20000 in
theorem ggX0_restoreByQ_X0_inverse : GoodIn wsX0_restoreByQ wsX0_inverse := goodIn_r _ [15, 16, 17, 4, 18, 10, 11, 12] (by decide +kernel) (by decide +kernel)
set_option maxRecDepth 20000 in
theorem gX0_restoreByQ_X0_inverse : GoodIn wsX0_restoreByQ (va_wsS RX0 86 yX0_inverse wsX0_inverse) := goodIn_app (goodIn_of _ (by decide +kernel)) ggX0_restoreByQ_X0_inverse
set_option maxRecDepth 20000 in
theorem ggX0_restoreByQ_X0_differenceQ : GoodIn wsX0_restoreByQ wsX0_differenceQ := goodIn_r _ [22, 6, 10, 11, 4, 12, 23, 24, 25, 26, 27, 1, 2, 3, 5, 32, 33, 34] (by decide +kernel) (by decide +kernel)
set_option maxRecDepth 20000 in
theorem gX0_restoreByQ_X0_differenceQ : GoodIn wsX0_restoreByQ (wsV RX0 114 RX0 yX0_differenceQ wsX0_differenceQ) := goodIn_app (goodIn_of _ (by decide +kernel)) ggX0_restoreByQ_X0_differenceQ
set_option maxRecDepth 20000 in
theorem ggX0_restoreByQ_X0_multiplied : GoodIn wsX0_restoreByQ wsX0_multiplied := goodIn_r _ [18, 10, 11, 4, 12] (by decide +kernel) (by decide +kernel)
set_option maxRecDepth 20000 in
theorem gX0_restoreByQ_X0_multiplied : GoodIn wsX0_restoreByQ (va_wsS RX0 89 yX0_multiplied wsX0_multiplied) := goodIn_app (goodIn_of _ (by decide +kernel)) ggX0_restoreByQ_X0_multiplied
set_option maxRecDepth 20000 in
theorem ggX0_restoreByQ_X0_change : GoodIn wsX0_restoreByQ wsX0_change := goodIn_r _ [31, 27, 32, 33, 34] (by decide +kernel) (by decide +kernel)
set_option maxRecDepth 20000 in
theorem gX0_restoreByQ_X0_change : GoodIn wsX0_restoreByQ (wsV RX0 47 RX0 yX0_change wsX0_change) := goodIn_app (goodIn_of _ (by decide +kernel)) ggX0_restoreByQ_X0_change
theorem dX0_restoreByQ_0 : decode cX0_restoreByQ 0 = .ok (.iload_n 1, 1) := by decide +kernel
theorem dX0_restoreByQ_1 : decode cX0_restoreByQ 1 = .ok (.aload_n 0, 1) := by decide +kernel
theorem dX0_restoreByQ_2 : decode cX0_restoreByQ 2 = .ok (.invokevirtual 57, 3) := by decide +kernel
theorem dX0_restoreByQ_5 : decode cX0_restoreByQ 5 = .ok (.if_icmp .ne 7, 3) := by decide +kernel
theorem dX0_restoreByQ_8 : decode cX0_restoreByQ 8 = .ok (.iconst 1, 1) := by decide +kernel
theorem dX0_restoreByQ_9 : decode cX0_restoreByQ 9 = .ok (.goto 11, 3) := by decide +kernel
theorem dX0_restoreByQ_12 : decode cX0_restoreByQ 12 = .ok (.iconst 1, 1) := by decide +kernel
theorem dX0_restoreByQ_13 : decode cX0_restoreByQ 13 = .ok (.iload_n 1, 1) := by decide +kernel
theorem dX0_restoreByQ_14 : decode cX0_restoreByQ 14 = .ok (.invokestatic 97, 3) := by decide +kernel
theorem dX0_restoreByQ_17 : decode cX0_restoreByQ 17 = .ok (.invokestatic 86, 3) := by decide +kernel
theorem dX0_restoreByQ_20 : decode cX0_restoreByQ 20 = .ok (.istore_n 2, 1) := by decide +kernel
theorem dX0_restoreByQ_21 : decode cX0_restoreByQ 21 = .ok (.iconst 0, 1) := by decide +kernel
theorem dX0_restoreByQ_22 : decode cX0_restoreByQ 22 = .ok (.istore_n 3, 1) := by decide +kernel
theorem dX0_restoreByQ_23 : decode cX0_restoreByQ 23 = .ok (.iload_n 3, 1) := by decide +kernel
theorem dX0_restoreByQ_24 : decode cX0_restoreByQ 24 = .ok (.bipush 64, 2) := by decide +kernel
theorem dX0_restoreByQ_26 : decode cX0_restoreByQ 26 = .ok (.if_icmp .ge 24, 3) := by decide +kernel
theorem dX0_restoreByQ_29 : decode cX0_restoreByQ 29 = .ok (.aload_n 0, 1) := by decide +kernel
theorem dX0_restoreByQ_30 : decode cX0_restoreByQ 30 = .ok (.iload_n 1, 1) := by decide +kernel
theorem dX0_restoreByQ_31 : decode cX0_restoreByQ 31 = .ok (.iload_n 3, 1) := by decide +kernel
theorem dX0_restoreByQ_32 : decode cX0_restoreByQ 32 = .ok (.aload_n 0, 1) := by decide +kernel
theorem dX0_restoreByQ_33 : decode cX0_restoreByQ 33 = .ok (.iload_n 3, 1) := by decide +kernel
theorem dX0_restoreByQ_34 : decode cX0_restoreByQ 34 = .ok (.invokevirtual 114, 3) := by decide +kernel
theorem dX0_restoreByQ_37 : decode cX0_restoreByQ 37 = .ok (.iload_n 2, 1) := by decide +kernel
theorem dX0_restoreByQ_38 : decode cX0_restoreByQ 38 = .ok (.invokestatic 89, 3) := by decide +kernel
theorem dX0_restoreByQ_41 : decode cX0_restoreByQ 41 = .ok (.invokevirtual 47, 3) := by decide +kernel
theorem dX0_restoreByQ_44 : decode cX0_restoreByQ 44 = .ok (.iinc 3 1, 3) := by decide +kernel
theorem dX0_restoreByQ_47 : decode cX0_restoreByQ 47 = .ok (.goto (-24), 3) := by decide +kernel
theorem dX0_restoreByQ_50 : decode cX0_restoreByQ 50 = .ok (.return_, 1) := by decide +kernel
set_option maxRecDepth 20000 in
theorem ggX0_restoreDataPair_X0_timesPower : GoodIn wsX0_restoreDataPair wsX0_timesPower := goodIn_r _ [4, 5, 6, 3, 7] (by decide +kernel) (by decide +kernel)
set_option maxRecDepth 20000 in
theorem gX0_restoreDataPair_X0_timesPower : GoodIn wsX0_restoreDataPair (va_wsS RX0 97 yX0_timesPower wsX0_timesPower) := goodIn_app (goodIn_of _ (by decide +kernel)) ggX0_restoreDataPair_X0_timesPower
set_option maxRecDepth 20000 in
theorem ggX0_restoreDataPair_X0_inverse : GoodIn wsX0_restoreDataPair wsX0_inverse := goodIn_r _ [10, 11, 12, 3, 13, 5, 6, 7] (by decide +kernel) (by decide +kernel)
set_option maxRecDepth 20000 in
theorem gX0_restoreDataPair_X0_inverse : GoodIn wsX0_restoreDataPair (va_wsS RX0 86 yX0_inverse wsX0_inverse) := goodIn_app (goodIn_of _ (by decide +kernel)) ggX0_restoreDataPair_X0_inverse
set_option maxRecDepth 20000 in
theorem ggX0_restoreDataPair_X0_differenceP : GoodIn wsX0_restoreDataPair wsX0_differenceP := goodIn_r _ [17, 18, 19, 20, 21, 3, 22, 23, 24, 25, 26, 27, 40, 41, 42] (by decide +kernel) (by decide +kernel)
set_option maxRecDepth 20000 in
theorem gX0_restoreDataPair_X0_differenceP : GoodIn wsX0_restoreDataPair (wsV RX0 111 RX0 yX0_differenceP wsX0_differenceP) := goodIn_app (goodIn_of _ (by decide +kernel)) ggX0_restoreDataPair_X0_differenceP
set_option maxRecDepth 20000 in
theorem ggX0_restoreDataPair_X0_differenceQ : GoodIn wsX0_restoreDataPair wsX0_differenceQ := goodIn_r _ [31, 18, 5, 6, 3, 7, 23, 24, 25, 26, 27, 32, 33, 34, 35, 40, 41, 42] (by decide +kernel) (by decide +kernel)
set_option maxRecDepth 20000 in
theorem gX0_restoreDataPair_X0_differenceQ : GoodIn wsX0_restoreDataPair (wsV RX0 114 RX0 yX0_differenceQ wsX0_differenceQ) := goodIn_app (goodIn_of _ (by decide +kernel)) ggX0_restoreDataPair_X0_differenceQ
set_option maxRecDepth 20000 in
theorem ggX0_restoreDataPair_X0_multiplied : GoodIn wsX0_restoreDataPair wsX0_multiplied := goodIn_r _ [13, 5, 6, 3, 7] (by decide +kernel) (by decide +kernel)
set_option maxRecDepth 20000 in
theorem gX0_restoreDataPair_X0_multiplied : GoodIn wsX0_restoreDataPair (va_wsS RX0 89 yX0_multiplied wsX0_multiplied) := goodIn_app (goodIn_of _ (by decide +kernel)) ggX0_restoreDataPair_X0_multiplied
set_option maxRecDepth 20000 in
theorem ggX0_restoreDataPair_X0_change : GoodIn wsX0_restoreDataPair wsX0_change := goodIn_r _ [39, 27, 40, 41, 42] (by decide +kernel) (by decide +kernel)
set_option maxRecDepth 20000 in
theorem gX0_restoreDataPair_X0_change : GoodIn wsX0_restoreDataPair (wsV RX0 47 RX0 yX0_change wsX0_change) := goodIn_app (goodIn_of _ (by decide +kernel)) ggX0_restoreDataPair_X0_change
theorem dX0_restoreDataPair_0 : decode cX0_restoreDataPair 0 = .ok (.iconst 1, 1) := by decide +kernel
theorem dX0_restoreDataPair_1 : decode cX0_restoreDataPair 1 = .ok (.iload_n 1, 1) := by decide +kernel
theorem dX0_restoreDataPair_2 : decode cX0_restoreDataPair 2 = .ok (.invokestatic 97, 3) := by decide +kernel
theorem dX0_restoreDataPair_5 : decode cX0_restoreDataPair 5 = .ok (.iconst 1, 1) := by decide +kernel
theorem dX0_restoreDataPair_6 : decode cX0_restoreDataPair 6 = .ok (.iload_n 2, 1) := by decide +kernel
theorem dX0_restoreDataPair_7 : decode cX0_restoreDataPair 7 = .ok (.invokestatic 97, 3) := by decide +kernel
theorem dX0_restoreDataPair_10 : decode cX0_restoreDataPair 10 = .ok (.ixor, 1) := by decide +kernel
theorem dX0_restoreDataPair_11 : decode cX0_restoreDataPair 11 = .ok (.invokestatic 86, 3) := by decide +kernel
theorem dX0_restoreDataPair_14 : decode cX0_restoreDataPair 14 = .ok (.istore_n 3, 1) := by decide +kernel
theorem dX0_restoreDataPair_15 : decode cX0_restoreDataPair 15 = .ok (.iconst 0, 1) := by decide +kernel
theorem dX0_restoreDataPair_16 : decode cX0_restoreDataPair 16 = .ok (.istore 4, 2) := by decide +kernel
theorem dX0_restoreDataPair_18 : decode cX0_restoreDataPair 18 = .ok (.iload 4, 2) := by decide +kernel
theorem dX0_restoreDataPair_20 : decode cX0_restoreDataPair 20 = .ok (.bipush 64, 2) := by decide +kernel
theorem dX0_restoreDataPair_22 : decode cX0_restoreDataPair 22 = .ok (.if_icmp .ge 57, 3) := by decide +kernel
theorem dX0_restoreDataPair_25 : decode cX0_restoreDataPair 25 = .ok (.aload_n 0, 1) := by decide +kernel
theorem dX0_restoreDataPair_26 : decode cX0_restoreDataPair 26 = .ok (.iload 4, 2) := by decide +kernel
theorem dX0_restoreDataPair_28 : decode cX0_restoreDataPair 28 = .ok (.invokevirtual 111, 3) := by decide +kernel
theorem dX0_restoreDataPair_31 : decode cX0_restoreDataPair 31 = .ok (.istore 5, 2) := by decide +kernel
theorem dX0_restoreDataPair_33 : decode cX0_restoreDataPair 33 = .ok (.aload_n 0, 1) := by decide +kernel
theorem dX0_restoreDataPair_34 : decode cX0_restoreDataPair 34 = .ok (.iload 4, 2) := by decide +kernel
theorem dX0_restoreDataPair_36 : decode cX0_restoreDataPair 36 = .ok (.invokevirtual 114, 3) := by decide +kernel
theorem dX0_restoreDataPair_39 : decode cX0_restoreDataPair 39 = .ok (.iload 5, 2) := by decide +kernel
theorem dX0_restoreDataPair_41 : decode cX0_restoreDataPair 41 = .ok (.iload_n 1, 1) := by decide +kernel
theorem dX0_restoreDataPair_42 : decode cX0_restoreDataPair 42 = .ok (.invokestatic 97, 3) := by decide +kernel
theorem dX0_restoreDataPair_45 : decode cX0_restoreDataPair 45 = .ok (.ixor, 1) := by decide +kernel
theorem dX0_restoreDataPair_46 : decode cX0_restoreDataPair 46 = .ok (.iload_n 3, 1) := by decide +kernel
theorem dX0_restoreDataPair_47 : decode cX0_restoreDataPair 47 = .ok (.invokestatic 89, 3) := by decide +kernel
theorem dX0_restoreDataPair_50 : decode cX0_restoreDataPair 50 = .ok (.istore 6, 2) := by decide +kernel
theorem dX0_restoreDataPair_52 : decode cX0_restoreDataPair 52 = .ok (.aload_n 0, 1) := by decide +kernel
theorem dX0_restoreDataPair_53 : decode cX0_restoreDataPair 53 = .ok (.iload_n 1, 1) := by decide +kernel
theorem dX0_restoreDataPair_54 : decode cX0_restoreDataPair 54 = .ok (.iload 4, 2) := by decide +kernel
theorem dX0_restoreDataPair_56 : decode cX0_restoreDataPair 56 = .ok (.iload 5, 2) := by decide +kernel
theorem dX0_restoreDataPair_58 : decode cX0_restoreDataPair 58 = .ok (.iload 6, 2) := by decide +kernel
theorem dX0_restoreDataPair_60 : decode cX0_restoreDataPair 60 = .ok (.ixor, 1) := by decide +kernel
theorem dX0_restoreDataPair_61 : decode cX0_restoreDataPair 61 = .ok (.invokevirtual 47, 3) := by decide +kernel
theorem dX0_restoreDataPair_64 : decode cX0_restoreDataPair 64 = .ok (.aload_n 0, 1) := by decide +kernel
theorem dX0_restoreDataPair_65 : decode cX0_restoreDataPair 65 = .ok (.iload_n 2, 1) := by decide +kernel
theorem dX0_restoreDataPair_66 : decode cX0_restoreDataPair 66 = .ok (.iload 4, 2) := by decide +kernel
theorem dX0_restoreDataPair_68 : decode cX0_restoreDataPair 68 = .ok (.iload 6, 2) := by decide +kernel
theorem dX0_restoreDataPair_70 : decode cX0_restoreDataPair 70 = .ok (.invokevirtual 47, 3) := by decide +kernel
theorem dX0_restoreDataPair_73 : decode cX0_restoreDataPair 73 = .ok (.iinc 4 1, 3) := by decide +kernel
theorem dX0_restoreDataPair_76 : decode cX0_restoreDataPair 76 = .ok (.goto (-58), 3) := by decide +kernel
theorem dX0_restoreDataPair_79 : decode cX0_restoreDataPair 79 = .ok (.return_, 1) := by decide +kernel
theorem dX0_isElement_0 : decode cX0_isElement 0 = .ok (.iload_n 0, 1) := by decide +kernel
theorem dX0_isElement_1 : decode cX0_isElement 1 = .ok (.ifCond .lt 14, 3) := by decide +kernel
theorem dX0_isElement_4 : decode cX0_isElement 4 = .ok (.iload_n 0, 1) := by decide +kernel
theorem dX0_isElement_5 : decode cX0_isElement 5 = .ok (.sipush 256, 3) := by decide +kernel
theorem dX0_isElement_8 : decode cX0_isElement 8 = .ok (.if_icmp .ge 7, 3) := by decide +kernel
theorem dX0_isElement_11 : decode cX0_isElement 11 = .ok (.iconst 1, 1) := by decide +kernel
theorem dX0_isElement_12 : decode cX0_isElement 12 = .ok (.goto 4, 3) := by decide +kernel
theorem dX0_isElement_15 : decode cX0_isElement 15 = .ok (.iconst 0, 1) := by decide +kernel
theorem dX0_isElement_16 : decode cX0_isElement 16 = .ok (.ireturn, 1) := by decide +kernel
theorem dX0_doubled_0 : decode cX0_doubled 0 = .ok (.iload_n 0, 1) := by decide +kernel
theorem dX0_doubled_1 : decode cX0_doubled 1 = .ok (.iconst 1, 1) := by decide +kernel
theorem dX0_doubled_2 : decode cX0_doubled 2 = .ok (.ishl, 1) := by decide +kernel
theorem dX0_doubled_3 : decode cX0_doubled 3 = .ok (.istore_n 1, 1) := by decide +kernel
theorem dX0_doubled_4 : decode cX0_doubled 4 = .ok (.iload_n 1, 1) := by decide +kernel
theorem dX0_doubled_5 : decode cX0_doubled 5 = .ok (.sipush 256, 3) := by decide +kernel
theorem dX0_doubled_8 : decode cX0_doubled 8 = .ok (.if_icmp .ge 7, 3) := by decide +kernel
theorem dX0_doubled_11 : decode cX0_doubled 11 = .ok (.iload_n 1, 1) := by decide +kernel
theorem dX0_doubled_12 : decode cX0_doubled 12 = .ok (.goto 8, 3) := by decide +kernel
theorem dX0_doubled_15 : decode cX0_doubled 15 = .ok (.iload_n 1, 1) := by decide +kernel
theorem dX0_doubled_16 : decode cX0_doubled 16 = .ok (.sipush 285, 3) := by decide +kernel
theorem dX0_doubled_19 : decode cX0_doubled 19 = .ok (.ixor, 1) := by decide +kernel
theorem dX0_doubled_20 : decode cX0_doubled 20 = .ok (.ireturn, 1) := by decide +kernel
set_option maxRecDepth 20000 in
theorem ggX0_timesPower_X0_doubled : GoodIn wsX0_timesPower wsX0_doubled := goodIn_r _ [4] (by decide +kernel) (by decide +kernel)
set_option maxRecDepth 20000 in
theorem gX0_timesPower_X0_doubled : GoodIn wsX0_timesPower (va_wsS RX0 108 yX0_doubled wsX0_doubled) := goodIn_app (goodIn_of _ (by decide +kernel)) ggX0_timesPower_X0_doubled
theorem dX0_timesPower_0 : decode cX0_timesPower 0 = .ok (.iload_n 0, 1) := by decide +kernel
theorem dX0_timesPower_1 : decode cX0_timesPower 1 = .ok (.istore_n 2, 1) := by decide +kernel
theorem dX0_timesPower_2 : decode cX0_timesPower 2 = .ok (.iconst 0, 1) := by decide +kernel
theorem dX0_timesPower_3 : decode cX0_timesPower 3 = .ok (.istore_n 3, 1) := by decide +kernel
theorem dX0_timesPower_4 : decode cX0_timesPower 4 = .ok (.iload_n 3, 1) := by decide +kernel
theorem dX0_timesPower_5 : decode cX0_timesPower 5 = .ok (.iload_n 1, 1) := by decide +kernel
theorem dX0_timesPower_6 : decode cX0_timesPower 6 = .ok (.if_icmp .ge 14, 3) := by decide +kernel
theorem dX0_timesPower_9 : decode cX0_timesPower 9 = .ok (.iload_n 2, 1) := by decide +kernel
theorem dX0_timesPower_10 : decode cX0_timesPower 10 = .ok (.invokestatic 108, 3) := by decide +kernel
theorem dX0_timesPower_13 : decode cX0_timesPower 13 = .ok (.istore_n 2, 1) := by decide +kernel
theorem dX0_timesPower_14 : decode cX0_timesPower 14 = .ok (.iinc 3 1, 3) := by decide +kernel
theorem dX0_timesPower_17 : decode cX0_timesPower 17 = .ok (.goto (-13), 3) := by decide +kernel
theorem dX0_timesPower_20 : decode cX0_timesPower 20 = .ok (.iload_n 2, 1) := by decide +kernel
theorem dX0_timesPower_21 : decode cX0_timesPower 21 = .ok (.ireturn, 1) := by decide +kernel
set_option maxRecDepth 20000 in
theorem ggX0_multiplied_X0_doubled : GoodIn wsX0_multiplied wsX0_doubled := goodIn_r _ [4] (by decide +kernel) (by decide +kernel)
set_option maxRecDepth 20000 in
theorem gX0_multiplied_X0_doubled : GoodIn wsX0_multiplied (va_wsS RX0 108 yX0_doubled wsX0_doubled) := goodIn_app (goodIn_of _ (by decide +kernel)) ggX0_multiplied_X0_doubled
theorem dX0_multiplied_0 : decode cX0_multiplied 0 = .ok (.iconst 0, 1) := by decide +kernel
theorem dX0_multiplied_1 : decode cX0_multiplied 1 = .ok (.istore_n 2, 1) := by decide +kernel
theorem dX0_multiplied_2 : decode cX0_multiplied 2 = .ok (.iload_n 0, 1) := by decide +kernel
theorem dX0_multiplied_3 : decode cX0_multiplied 3 = .ok (.istore_n 3, 1) := by decide +kernel
theorem dX0_multiplied_4 : decode cX0_multiplied 4 = .ok (.iconst 0, 1) := by decide +kernel
theorem dX0_multiplied_5 : decode cX0_multiplied 5 = .ok (.istore 4, 2) := by decide +kernel
theorem dX0_multiplied_7 : decode cX0_multiplied 7 = .ok (.iload 4, 2) := by decide +kernel
theorem dX0_multiplied_9 : decode cX0_multiplied 9 = .ok (.bipush 8, 2) := by decide +kernel
theorem dX0_multiplied_11 : decode cX0_multiplied 11 = .ok (.if_icmp .ge 27, 3) := by decide +kernel
theorem dX0_multiplied_14 : decode cX0_multiplied 14 = .ok (.iload_n 1, 1) := by decide +kernel
theorem dX0_multiplied_15 : decode cX0_multiplied 15 = .ok (.iload 4, 2) := by decide +kernel
theorem dX0_multiplied_17 : decode cX0_multiplied 17 = .ok (.ishr, 1) := by decide +kernel
theorem dX0_multiplied_18 : decode cX0_multiplied 18 = .ok (.iconst 1, 1) := by decide +kernel
theorem dX0_multiplied_19 : decode cX0_multiplied 19 = .ok (.iand, 1) := by decide +kernel
theorem dX0_multiplied_20 : decode cX0_multiplied 20 = .ok (.ifCond .eq 7, 3) := by decide +kernel
theorem dX0_multiplied_23 : decode cX0_multiplied 23 = .ok (.iload_n 2, 1) := by decide +kernel
theorem dX0_multiplied_24 : decode cX0_multiplied 24 = .ok (.iload_n 3, 1) := by decide +kernel
theorem dX0_multiplied_25 : decode cX0_multiplied 25 = .ok (.ixor, 1) := by decide +kernel
theorem dX0_multiplied_26 : decode cX0_multiplied 26 = .ok (.istore_n 2, 1) := by decide +kernel
theorem dX0_multiplied_27 : decode cX0_multiplied 27 = .ok (.iload_n 3, 1) := by decide +kernel
theorem dX0_multiplied_28 : decode cX0_multiplied 28 = .ok (.invokestatic 108, 3) := by decide +kernel
theorem dX0_multiplied_31 : decode cX0_multiplied 31 = .ok (.istore_n 3, 1) := by decide +kernel
theorem dX0_multiplied_32 : decode cX0_multiplied 32 = .ok (.iinc 4 1, 3) := by decide +kernel
theorem dX0_multiplied_35 : decode cX0_multiplied 35 = .ok (.goto (-28), 3) := by decide +kernel
theorem dX0_multiplied_38 : decode cX0_multiplied 38 = .ok (.iload_n 2, 1) := by decide +kernel
theorem dX0_multiplied_39 : decode cX0_multiplied 39 = .ok (.ireturn, 1) := by decide +kernel
set_option maxRecDepth 20000 in
theorem ggX0_inverse_X0_multiplied : GoodIn wsX0_inverse wsX0_multiplied := goodIn_r _ [4, 5, 6, 3, 7] (by decide +kernel) (by decide +kernel)
set_option maxRecDepth 20000 in
theorem gX0_inverse_X0_multiplied : GoodIn wsX0_inverse (va_wsS RX0 89 yX0_multiplied wsX0_multiplied) := goodIn_app (goodIn_of _ (by decide +kernel)) ggX0_inverse_X0_multiplied
theorem dX0_inverse_0 : decode cX0_inverse 0 = .ok (.iload_n 0, 1) := by decide +kernel
theorem dX0_inverse_1 : decode cX0_inverse 1 = .ok (.istore_n 1, 1) := by decide +kernel
theorem dX0_inverse_2 : decode cX0_inverse 2 = .ok (.iconst 1, 1) := by decide +kernel
theorem dX0_inverse_3 : decode cX0_inverse 3 = .ok (.istore_n 2, 1) := by decide +kernel
theorem dX0_inverse_4 : decode cX0_inverse 4 = .ok (.iconst 1, 1) := by decide +kernel
theorem dX0_inverse_5 : decode cX0_inverse 5 = .ok (.istore_n 3, 1) := by decide +kernel
theorem dX0_inverse_6 : decode cX0_inverse 6 = .ok (.iload_n 3, 1) := by decide +kernel
theorem dX0_inverse_7 : decode cX0_inverse 7 = .ok (.bipush 8, 2) := by decide +kernel
theorem dX0_inverse_9 : decode cX0_inverse 9 = .ok (.if_icmp .ge 21, 3) := by decide +kernel
theorem dX0_inverse_12 : decode cX0_inverse 12 = .ok (.iload_n 1, 1) := by decide +kernel
theorem dX0_inverse_13 : decode cX0_inverse 13 = .ok (.iload_n 1, 1) := by decide +kernel
theorem dX0_inverse_14 : decode cX0_inverse 14 = .ok (.invokestatic 89, 3) := by decide +kernel
theorem dX0_inverse_17 : decode cX0_inverse 17 = .ok (.istore_n 1, 1) := by decide +kernel
theorem dX0_inverse_18 : decode cX0_inverse 18 = .ok (.iload_n 2, 1) := by decide +kernel
theorem dX0_inverse_19 : decode cX0_inverse 19 = .ok (.iload_n 1, 1) := by decide +kernel
theorem dX0_inverse_20 : decode cX0_inverse 20 = .ok (.invokestatic 89, 3) := by decide +kernel
theorem dX0_inverse_23 : decode cX0_inverse 23 = .ok (.istore_n 2, 1) := by decide +kernel
theorem dX0_inverse_24 : decode cX0_inverse 24 = .ok (.iinc 3 1, 3) := by decide +kernel
theorem dX0_inverse_27 : decode cX0_inverse 27 = .ok (.goto (-21), 3) := by decide +kernel
theorem dX0_inverse_30 : decode cX0_inverse 30 = .ok (.iload_n 2, 1) := by decide +kernel
theorem dX0_inverse_31 : decode cX0_inverse 31 = .ok (.ireturn, 1) := by decide +kernel
set_option maxRecDepth 20000 in
theorem ggX1_init_X1_begin : GoodIn wsX1_init wsX1_begin := goodIn_r _ [12, 13, 14, 5, 7, 15, 16, 17, 18] (by decide +kernel) (by decide +kernel)
set_option maxRecDepth 20000 in
theorem gX1_init_X1_begin : GoodIn wsX1_init (wsV RX1 17 RX1 yX1_begin wsX1_begin) := goodIn_app (goodIn_of _ (by decide +kernel)) ggX1_init_X1_begin
theorem dX1_init_0 : decode cX1_init 0 = .ok (.aload_n 0, 1) := by decide +kernel
theorem dX1_init_1 : decode cX1_init 1 = .ok (.invokespecial 1, 3) := by decide +kernel
theorem dX1_init_4 : decode cX1_init 4 = .ok (.aload_n 0, 1) := by decide +kernel
theorem dX1_init_5 : decode cX1_init 5 = .ok (.sipush 1024, 3) := by decide +kernel
theorem dX1_init_8 : decode cX1_init 8 = .ok (.newarray .int, 2) := by decide +kernel
theorem dX1_init_10 : decode cX1_init 10 = .ok (.putfield 7, 3) := by decide +kernel
theorem dX1_init_13 : decode cX1_init 13 = .ok (.aload_n 0, 1) := by decide +kernel
theorem dX1_init_14 : decode cX1_init 14 = .ok (.bipush 16, 2) := by decide +kernel
theorem dX1_init_16 : decode cX1_init 16 = .ok (.newarray .boolean, 2) := by decide +kernel
theorem dX1_init_18 : decode cX1_init 18 = .ok (.putfield 13, 3) := by decide +kernel
theorem dX1_init_21 : decode cX1_init 21 = .ok (.aload_n 0, 1) := by decide +kernel
theorem dX1_init_22 : decode cX1_init 22 = .ok (.iconst 4, 1) := by decide +kernel
theorem dX1_init_23 : decode cX1_init 23 = .ok (.invokevirtual 17, 3) := by decide +kernel
theorem dX1_init_26 : decode cX1_init 26 = .ok (.istore_n 1, 1) := by decide +kernel
theorem dX1_init_27 : decode cX1_init 27 = .ok (.return_, 1) := by decide +kernel
theorem dX1_begin_0 : decode cX1_begin 0 = .ok (.aload_n 0, 1) := by decide +kernel
theorem dX1_begin_1 : decode cX1_begin 1 = .ok (.iconst 0, 1) := by decide +kernel
theorem dX1_begin_2 : decode cX1_begin 2 = .ok (.putfield 21, 3) := by decide +kernel
theorem dX1_begin_5 : decode cX1_begin 5 = .ok (.iload_n 1, 1) := by decide +kernel
theorem dX1_begin_6 : decode cX1_begin 6 = .ok (.iconst 2, 1) := by decide +kernel
theorem dX1_begin_7 : decode cX1_begin 7 = .ok (.if_icmp .lt 9, 3) := by decide +kernel
theorem dX1_begin_10 : decode cX1_begin 10 = .ok (.iload_n 1, 1) := by decide +kernel
theorem dX1_begin_11 : decode cX1_begin 11 = .ok (.bipush 14, 2) := by decide +kernel
theorem dX1_begin_13 : decode cX1_begin 13 = .ok (.if_icmp .le 5, 3) := by decide +kernel
theorem dX1_begin_16 : decode cX1_begin 16 = .ok (.iconst (-1), 1) := by decide +kernel
theorem dX1_begin_17 : decode cX1_begin 17 = .ok (.ireturn, 1) := by decide +kernel
theorem dX1_begin_18 : decode cX1_begin 18 = .ok (.aload_n 0, 1) := by decide +kernel
theorem dX1_begin_19 : decode cX1_begin 19 = .ok (.iload_n 1, 1) := by decide +kernel
theorem dX1_begin_20 : decode cX1_begin 20 = .ok (.iconst 2, 1) := by decide +kernel
theorem dX1_begin_21 : decode cX1_begin 21 = .ok (.iadd, 1) := by decide +kernel
theorem dX1_begin_22 : decode cX1_begin 22 = .ok (.putfield 25, 3) := by decide +kernel
theorem dX1_begin_25 : decode cX1_begin 25 = .ok (.iconst 0, 1) := by decide +kernel
theorem dX1_begin_26 : decode cX1_begin 26 = .ok (.istore_n 2, 1) := by decide +kernel
theorem dX1_begin_27 : decode cX1_begin 27 = .ok (.iload_n 2, 1) := by decide +kernel
theorem dX1_begin_28 : decode cX1_begin 28 = .ok (.sipush 1024, 3) := by decide +kernel
theorem dX1_begin_31 : decode cX1_begin 31 = .ok (.if_icmp .ge 16, 3) := by decide +kernel
theorem dX1_begin_34 : decode cX1_begin 34 = .ok (.aload_n 0, 1) := by decide +kernel
theorem dX1_begin_35 : decode cX1_begin 35 = .ok (.getfield 7, 3) := by decide +kernel
theorem dX1_begin_38 : decode cX1_begin 38 = .ok (.iload_n 2, 1) := by decide +kernel
theorem dX1_begin_39 : decode cX1_begin 39 = .ok (.iconst 0, 1) := by decide +kernel
theorem dX1_begin_40 : decode cX1_begin 40 = .ok (.iastore, 1) := by decide +kernel
theorem dX1_begin_41 : decode cX1_begin 41 = .ok (.iinc 2 1, 3) := by decide +kernel
theorem dX1_begin_44 : decode cX1_begin 44 = .ok (.goto (-17), 3) := by decide +kernel
theorem dX1_begin_47 : decode cX1_begin 47 = .ok (.iconst 0, 1) := by decide +kernel
theorem dX1_begin_48 : decode cX1_begin 48 = .ok (.istore_n 2, 1) := by decide +kernel
theorem dX1_begin_49 : decode cX1_begin 49 = .ok (.iload_n 2, 1) := by decide +kernel
theorem dX1_begin_50 : decode cX1_begin 50 = .ok (.bipush 16, 2) := by decide +kernel
theorem dX1_begin_52 : decode cX1_begin 52 = .ok (.if_icmp .ge 16, 3) := by decide +kernel
theorem dX1_begin_55 : decode cX1_begin 55 = .ok (.aload_n 0, 1) := by decide +kernel
theorem dX1_begin_56 : decode cX1_begin 56 = .ok (.getfield 13, 3) := by decide +kernel
theorem dX1_begin_59 : decode cX1_begin 59 = .ok (.iload_n 2, 1) := by decide +kernel
theorem dX1_begin_60 : decode cX1_begin 60 = .ok (.iconst 0, 1) := by decide +kernel
theorem dX1_begin_61 : decode cX1_begin 61 = .ok (.bastore, 1) := by decide +kernel
theorem dX1_begin_62 : decode cX1_begin 62 = .ok (.iinc 2 1, 3) := by decide +kernel
theorem dX1_begin_65 : decode cX1_begin 65 = .ok (.goto (-16), 3) := by decide +kernel
theorem dX1_begin_68 : decode cX1_begin 68 = .ok (.aload_n 0, 1) := by decide +kernel
theorem dX1_begin_69 : decode cX1_begin 69 = .ok (.getfield 25, 3) := by decide +kernel
theorem dX1_begin_72 : decode cX1_begin 72 = .ok (.ireturn, 1) := by decide +kernel
theorem dX1_times_0 : decode cX1_times 0 = .ok (.iconst 0, 1) := by decide +kernel
theorem dX1_times_1 : decode cX1_times 1 = .ok (.istore_n 3, 1) := by decide +kernel
theorem dX1_times_2 : decode cX1_times 2 = .ok (.iload_n 1, 1) := by decide +kernel
theorem dX1_times_3 : decode cX1_times 3 = .ok (.istore 4, 2) := by decide +kernel
theorem dX1_times_5 : decode cX1_times 5 = .ok (.iconst 0, 1) := by decide +kernel
theorem dX1_times_6 : decode cX1_times 6 = .ok (.istore 5, 2) := by decide +kernel
theorem dX1_times_8 : decode cX1_times 8 = .ok (.iload 5, 2) := by decide +kernel
theorem dX1_times_10 : decode cX1_times 10 = .ok (.bipush 8, 2) := by decide +kernel
theorem dX1_times_12 : decode cX1_times 12 = .ok (.if_icmp .ge 53, 3) := by decide +kernel
theorem dX1_times_15 : decode cX1_times 15 = .ok (.iload_n 2, 1) := by decide +kernel
theorem dX1_times_16 : decode cX1_times 16 = .ok (.iload 5, 2) := by decide +kernel
theorem dX1_times_18 : decode cX1_times 18 = .ok (.ishr, 1) := by decide +kernel
theorem dX1_times_19 : decode cX1_times 19 = .ok (.iconst 1, 1) := by decide +kernel
theorem dX1_times_20 : decode cX1_times 20 = .ok (.iand, 1) := by decide +kernel
theorem dX1_times_21 : decode cX1_times 21 = .ok (.iconst 1, 1) := by decide +kernel
theorem dX1_times_22 : decode cX1_times 22 = .ok (.if_icmp .ne 10, 3) := by decide +kernel
theorem dX1_times_25 : decode cX1_times 25 = .ok (.iload_n 3, 1) := by decide +kernel
theorem dX1_times_26 : decode cX1_times 26 = .ok (.iload 4, 2) := by decide +kernel
theorem dX1_times_28 : decode cX1_times 28 = .ok (.ixor, 1) := by decide +kernel
theorem dX1_times_29 : decode cX1_times 29 = .ok (.goto 4, 3) := by decide +kernel
theorem dX1_times_32 : decode cX1_times 32 = .ok (.iload_n 3, 1) := by decide +kernel
theorem dX1_times_33 : decode cX1_times 33 = .ok (.istore_n 3, 1) := by decide +kernel
theorem dX1_times_34 : decode cX1_times 34 = .ok (.iload 4, 2) := by decide +kernel
theorem dX1_times_36 : decode cX1_times 36 = .ok (.sipush 128, 3) := by decide +kernel
theorem dX1_times_39 : decode cX1_times 39 = .ok (.if_icmp .ge 10, 3) := by decide +kernel
theorem dX1_times_42 : decode cX1_times 42 = .ok (.iconst 2, 1) := by decide +kernel
theorem dX1_times_43 : decode cX1_times 43 = .ok (.iload 4, 2) := by decide +kernel
theorem dX1_times_45 : decode cX1_times 45 = .ok (.imul, 1) := by decide +kernel
theorem dX1_times_46 : decode cX1_times 46 = .ok (.goto 11, 3) := by decide +kernel
theorem dX1_times_49 : decode cX1_times 49 = .ok (.iconst 2, 1) := by decide +kernel
theorem dX1_times_50 : decode cX1_times 50 = .ok (.iload 4, 2) := by decide +kernel
theorem dX1_times_52 : decode cX1_times 52 = .ok (.imul, 1) := by decide +kernel
theorem dX1_times_53 : decode cX1_times 53 = .ok (.sipush 285, 3) := by decide +kernel
theorem dX1_times_56 : decode cX1_times 56 = .ok (.ixor, 1) := by decide +kernel
theorem dX1_times_57 : decode cX1_times 57 = .ok (.istore 4, 2) := by decide +kernel
theorem dX1_times_59 : decode cX1_times 59 = .ok (.iinc 5 1, 3) := by decide +kernel
theorem dX1_times_62 : decode cX1_times 62 = .ok (.goto (-54), 3) := by decide +kernel
theorem dX1_times_65 : decode cX1_times 65 = .ok (.iload_n 3, 1) := by decide +kernel
theorem dX1_times_66 : decode cX1_times 66 = .ok (.ireturn, 1) := by decide +kernel
set_option maxRecDepth 20000 in
theorem ggX1_twos_X1_times : GoodIn wsX1_twos wsX1_times := goodIn_r _ [5] (by decide +kernel) (by decide +kernel)
set_option maxRecDepth 20000 in
theorem gX1_twos_X1_times : GoodIn wsX1_twos (wsV RX1 28 RX1 yX1_times wsX1_times) := goodIn_app (goodIn_of _ (by decide +kernel)) ggX1_twos_X1_times
theorem dX1_twos_0 : decode cX1_twos 0 = .ok (.iconst 1, 1) := by decide +kernel
theorem dX1_twos_1 : decode cX1_twos 1 = .ok (.istore_n 2, 1) := by decide +kernel
theorem dX1_twos_2 : decode cX1_twos 2 = .ok (.iconst 0, 1) := by decide +kernel
theorem dX1_twos_3 : decode cX1_twos 3 = .ok (.istore_n 3, 1) := by decide +kernel
theorem dX1_twos_4 : decode cX1_twos 4 = .ok (.iload_n 3, 1) := by decide +kernel
theorem dX1_twos_5 : decode cX1_twos 5 = .ok (.iload_n 1, 1) := by decide +kernel
theorem dX1_twos_6 : decode cX1_twos 6 = .ok (.if_icmp .ge 16, 3) := by decide +kernel
theorem dX1_twos_9 : decode cX1_twos 9 = .ok (.aload_n 0, 1) := by decide +kernel
theorem dX1_twos_10 : decode cX1_twos 10 = .ok (.iload_n 2, 1) := by decide +kernel
theorem dX1_twos_11 : decode cX1_twos 11 = .ok (.iconst 2, 1) := by decide +kernel
theorem dX1_twos_12 : decode cX1_twos 12 = .ok (.invokevirtual 28, 3) := by decide +kernel
theorem dX1_twos_15 : decode cX1_twos 15 = .ok (.istore_n 2, 1) := by decide +kernel
theorem dX1_twos_16 : decode cX1_twos 16 = .ok (.iinc 3 1, 3) := by decide +kernel
theorem dX1_twos_19 : decode cX1_twos 19 = .ok (.goto (-15), 3) := by decide +kernel
theorem dX1_twos_22 : decode cX1_twos 22 = .ok (.iload_n 2, 1) := by decide +kernel
theorem dX1_twos_23 : decode cX1_twos 23 = .ok (.ireturn, 1) := by decide +kernel
set_option maxRecDepth 20000 in
theorem ggX1_part_X1_times : GoodIn wsX1_part wsX1_times := goodIn_r _ [5] (by decide +kernel) (by decide +kernel)
set_option maxRecDepth 20000 in
theorem gX1_part_X1_times : GoodIn wsX1_part (wsV RX1 28 RX1 yX1_times wsX1_times) := goodIn_app (goodIn_of _ (by decide +kernel)) ggX1_part_X1_times
theorem dX1_part_0 : decode cX1_part 0 = .ok (.iconst 0, 1) := by decide +kernel
theorem dX1_part_1 : decode cX1_part 1 = .ok (.istore_n 3, 1) := by decide +kernel
theorem dX1_part_2 : decode cX1_part 2 = .ok (.iload_n 3, 1) := by decide +kernel
theorem dX1_part_3 : decode cX1_part 3 = .ok (.sipush 256, 3) := by decide +kernel
theorem dX1_part_6 : decode cX1_part 6 = .ok (.if_icmp .ge 25, 3) := by decide +kernel
theorem dX1_part_9 : decode cX1_part 9 = .ok (.iload_n 2, 1) := by decide +kernel
theorem dX1_part_10 : decode cX1_part 10 = .ok (.ifCond .eq 21, 3) := by decide +kernel
theorem dX1_part_13 : decode cX1_part 13 = .ok (.aload_n 0, 1) := by decide +kernel
theorem dX1_part_14 : decode cX1_part 14 = .ok (.iload_n 3, 1) := by decide +kernel
theorem dX1_part_15 : decode cX1_part 15 = .ok (.iload_n 2, 1) := by decide +kernel
theorem dX1_part_16 : decode cX1_part 16 = .ok (.invokevirtual 28, 3) := by decide +kernel
theorem dX1_part_19 : decode cX1_part 19 = .ok (.iload_n 1, 1) := by decide +kernel
theorem dX1_part_20 : decode cX1_part 20 = .ok (.if_icmp .ne 5, 3) := by decide +kernel
theorem dX1_part_23 : decode cX1_part 23 = .ok (.iload_n 3, 1) := by decide +kernel
theorem dX1_part_24 : decode cX1_part 24 = .ok (.ireturn, 1) := by decide +kernel
