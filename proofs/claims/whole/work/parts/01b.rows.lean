theorem dX0_init_0 : decode cX0_init 0 = .ok (.aload_n 0, 1) := by decide +kernel
theorem dX0_init_1 : decode cX0_init 1 = .ok (.invokespecial 3, 3) := by decide +kernel
theorem dX0_init_4 : decode cX0_init 4 = .ok (.aload_n 0, 1) := by decide +kernel
theorem dX0_init_5 : decode cX0_init 5 = .ok (.sipush 1024, 3) := by decide +kernel
theorem dX0_init_8 : decode cX0_init 8 = .ok (.newarray .int, 2) := by decide +kernel
theorem dX0_init_10 : decode cX0_init 10 = .ok (.putfield 9, 3) := by decide +kernel
theorem dX0_init_13 : decode cX0_init 13 = .ok (.aload_n 0, 1) := by decide +kernel
theorem dX0_init_14 : decode cX0_init 14 = .ok (.iconst 4, 1) := by decide +kernel
theorem dX0_init_15 : decode cX0_init 15 = .ok (.putfield 13, 3) := by decide +kernel
theorem dX0_init_18 : decode cX0_init 18 = .ok (.aload_n 0, 1) := by decide +kernel
theorem dX0_init_19 : decode cX0_init 19 = .ok (.iconst 0, 1) := by decide +kernel
theorem dX0_init_20 : decode cX0_init 20 = .ok (.putfield 17, 3) := by decide +kernel
theorem dX0_init_23 : decode cX0_init 23 = .ok (.return_, 1) := by decide +kernel
set_option maxRecDepth 20000 in
theorem ggX0_begin_J7_fill_53178 : GoodIn wsX0_begin wsJ7_fill_53178 := goodIn_r _ [7] (by decide +kernel) (by decide +kernel)
set_option maxRecDepth 20000 in
theorem gX0_begin_J7_fill_53178 : GoodIn wsX0_begin (va_wsS RX0 20 yJ7_fill_53178 wsJ7_fill_53178) := goodIn_app (goodIn_of _ (by decide +kernel)) ggX0_begin_J7_fill_53178
set_option maxRecDepth 20000 in
theorem ggX0_begin_X0_units : GoodIn wsX0_begin wsX0_units := goodIn_r _ [12, 1, 13, 14, 15] (by decide +kernel) (by decide +kernel)
set_option maxRecDepth 20000 in
theorem gX0_begin_X0_units : GoodIn wsX0_begin (wsV RX0 26 RX0 yX0_units wsX0_units) := goodIn_app (goodIn_of _ (by decide +kernel)) ggX0_begin_X0_units
theorem dX0_begin_0 : decode cX0_begin 0 = .ok (.iload_n 1, 1) := by decide +kernel
theorem dX0_begin_1 : decode cX0_begin 1 = .ok (.iconst 2, 1) := by decide +kernel
theorem dX0_begin_2 : decode cX0_begin 2 = .ok (.if_icmp .lt 9, 3) := by decide +kernel
theorem dX0_begin_5 : decode cX0_begin 5 = .ok (.iload_n 1, 1) := by decide +kernel
theorem dX0_begin_6 : decode cX0_begin 6 = .ok (.bipush 14, 2) := by decide +kernel
theorem dX0_begin_8 : decode cX0_begin 8 = .ok (.if_icmp .le 5, 3) := by decide +kernel
theorem dX0_begin_11 : decode cX0_begin 11 = .ok (.iconst (-1), 1) := by decide +kernel
theorem dX0_begin_12 : decode cX0_begin 12 = .ok (.ireturn, 1) := by decide +kernel
theorem dX0_begin_13 : decode cX0_begin 13 = .ok (.aload_n 0, 1) := by decide +kernel
theorem dX0_begin_14 : decode cX0_begin 14 = .ok (.iload_n 1, 1) := by decide +kernel
theorem dX0_begin_15 : decode cX0_begin 15 = .ok (.putfield 13, 3) := by decide +kernel
theorem dX0_begin_18 : decode cX0_begin 18 = .ok (.aload_n 0, 1) := by decide +kernel
theorem dX0_begin_19 : decode cX0_begin 19 = .ok (.iconst 0, 1) := by decide +kernel
theorem dX0_begin_20 : decode cX0_begin 20 = .ok (.putfield 17, 3) := by decide +kernel
theorem dX0_begin_23 : decode cX0_begin 23 = .ok (.aload_n 0, 1) := by decide +kernel
theorem dX0_begin_24 : decode cX0_begin 24 = .ok (.getfield 9, 3) := by decide +kernel
theorem dX0_begin_27 : decode cX0_begin 27 = .ok (.iconst 0, 1) := by decide +kernel
theorem dX0_begin_28 : decode cX0_begin 28 = .ok (.invokestatic 20, 3) := by decide +kernel
theorem dX0_begin_31 : decode cX0_begin 31 = .ok (.aload_n 0, 1) := by decide +kernel
theorem dX0_begin_32 : decode cX0_begin 32 = .ok (.invokevirtual 26, 3) := by decide +kernel
theorem dX0_begin_35 : decode cX0_begin 35 = .ok (.ireturn, 1) := by decide +kernel
set_option maxRecDepth 20000 in
theorem ggX0_put_X0_isThere : GoodIn wsX0_put wsX0_isThere := goodIn_r _ [6, 7, 8, 9, 5, 10, 1, 11, 12, 13, 14, 15, 46, 47, 48] (by decide +kernel) (by decide +kernel)
set_option maxRecDepth 20000 in
theorem gX0_put_X0_isThere : GoodIn wsX0_put (wsV RX0 30 RX0 yX0_isThere wsX0_isThere) := goodIn_app (goodIn_of _ (by decide +kernel)) ggX0_put_X0_isThere
set_option maxRecDepth 20000 in
theorem ggX0_put_X0_isSpan : GoodIn wsX0_put wsX0_isSpan := goodIn_r _ [18] (by decide +kernel) (by decide +kernel)
set_option maxRecDepth 20000 in
theorem gX0_put_X0_isSpan : GoodIn wsX0_put (va_wsS RX0 34 yX0_isSpan wsX0_isSpan) := goodIn_app (goodIn_of _ (by decide +kernel)) ggX0_put_X0_isSpan
set_option maxRecDepth 20000 in
theorem ggX0_put_X0_byteAt : GoodIn wsX0_put wsX0_byteAt := goodIn_r _ [22, 23, 46, 47, 48] (by decide +kernel) (by decide +kernel)
set_option maxRecDepth 20000 in
theorem gX0_put_X0_byteAt : GoodIn wsX0_put (wsV RX0 38 RX0 yX0_byteAt wsX0_byteAt) := goodIn_app (goodIn_of _ (by decide +kernel)) ggX0_put_X0_byteAt
set_option maxRecDepth 20000 in
theorem ggX0_put_X0_changeWithParities : GoodIn wsX0_put wsX0_changeWithParities := goodIn_r _ [27, 28, 29, 30, 5, 31, 23, 32, 33, 34, 35, 1, 11, 12, 13, 14, 15, 36, 37, 38, 39, 40, 41, 42, 43, 44, 45, 46, 47, 48] (by decide +kernel) (by decide +kernel)
set_option maxRecDepth 20000 in
theorem gX0_put_X0_changeWithParities : GoodIn wsX0_put (wsV RX0 42 RX0 yX0_changeWithParities wsX0_changeWithParities) := goodIn_app (goodIn_of _ (by decide +kernel)) ggX0_put_X0_changeWithParities
theorem dX0_put_0 : decode cX0_put 0 = .ok (.iload_n 1, 1) := by decide +kernel
theorem dX0_put_1 : decode cX0_put 1 = .ok (.aload_n 0, 1) := by decide +kernel
theorem dX0_put_2 : decode cX0_put 2 = .ok (.getfield 13, 3) := by decide +kernel
theorem dX0_put_5 : decode cX0_put 5 = .ok (.if_icmp .ge 21, 3) := by decide +kernel
theorem dX0_put_8 : decode cX0_put 8 = .ok (.aload_n 0, 1) := by decide +kernel
theorem dX0_put_9 : decode cX0_put 9 = .ok (.iload_n 1, 1) := by decide +kernel
theorem dX0_put_10 : decode cX0_put 10 = .ok (.invokevirtual 30, 3) := by decide +kernel
theorem dX0_put_13 : decode cX0_put 13 = .ok (.ifCond .eq 13, 3) := by decide +kernel
theorem dX0_put_16 : decode cX0_put 16 = .ok (.iload_n 2, 1) := by decide +kernel
theorem dX0_put_17 : decode cX0_put 17 = .ok (.iload_n 3, 1) := by decide +kernel
theorem dX0_put_18 : decode cX0_put 18 = .ok (.bipush 8, 2) := by decide +kernel
theorem dX0_put_20 : decode cX0_put 20 = .ok (.invokestatic 34, 3) := by decide +kernel
theorem dX0_put_23 : decode cX0_put 23 = .ok (.ifCond .ne 5, 3) := by decide +kernel
theorem dX0_put_26 : decode cX0_put 26 = .ok (.iconst (-1), 1) := by decide +kernel
theorem dX0_put_27 : decode cX0_put 27 = .ok (.ireturn, 1) := by decide +kernel
theorem dX0_put_28 : decode cX0_put 28 = .ok (.iconst 0, 1) := by decide +kernel
theorem dX0_put_29 : decode cX0_put 29 = .ok (.istore 6, 2) := by decide +kernel
theorem dX0_put_31 : decode cX0_put 31 = .ok (.iload 6, 2) := by decide +kernel
theorem dX0_put_33 : decode cX0_put 33 = .ok (.iload_n 3, 1) := by decide +kernel
theorem dX0_put_34 : decode cX0_put 34 = .ok (.if_icmp .ge 45, 3) := by decide +kernel
theorem dX0_put_37 : decode cX0_put 37 = .ok (.lload 4, 2) := by decide +kernel
theorem dX0_put_39 : decode cX0_put 39 = .ok (.bipush 8, 2) := by decide +kernel
theorem dX0_put_41 : decode cX0_put 41 = .ok (.iload 6, 2) := by decide +kernel
theorem dX0_put_43 : decode cX0_put 43 = .ok (.imul, 1) := by decide +kernel
theorem dX0_put_44 : decode cX0_put 44 = .ok (.lushr, 1) := by decide +kernel
theorem dX0_put_45 : decode cX0_put 45 = .ok (.l2i, 1) := by decide +kernel
theorem dX0_put_46 : decode cX0_put 46 = .ok (.sipush 255, 3) := by decide +kernel
theorem dX0_put_49 : decode cX0_put 49 = .ok (.iand, 1) := by decide +kernel
theorem dX0_put_50 : decode cX0_put 50 = .ok (.istore 7, 2) := by decide +kernel
theorem dX0_put_52 : decode cX0_put 52 = .ok (.aload_n 0, 1) := by decide +kernel
theorem dX0_put_53 : decode cX0_put 53 = .ok (.iload_n 1, 1) := by decide +kernel
theorem dX0_put_54 : decode cX0_put 54 = .ok (.iload_n 2, 1) := by decide +kernel
theorem dX0_put_55 : decode cX0_put 55 = .ok (.iload 6, 2) := by decide +kernel
theorem dX0_put_57 : decode cX0_put 57 = .ok (.iadd, 1) := by decide +kernel
theorem dX0_put_58 : decode cX0_put 58 = .ok (.aload_n 0, 1) := by decide +kernel
theorem dX0_put_59 : decode cX0_put 59 = .ok (.iload_n 1, 1) := by decide +kernel
theorem dX0_put_60 : decode cX0_put 60 = .ok (.iload_n 2, 1) := by decide +kernel
theorem dX0_put_61 : decode cX0_put 61 = .ok (.iload 6, 2) := by decide +kernel
theorem dX0_put_63 : decode cX0_put 63 = .ok (.iadd, 1) := by decide +kernel
theorem dX0_put_64 : decode cX0_put 64 = .ok (.invokevirtual 38, 3) := by decide +kernel
theorem dX0_put_67 : decode cX0_put 67 = .ok (.iload 7, 2) := by decide +kernel
theorem dX0_put_69 : decode cX0_put 69 = .ok (.ixor, 1) := by decide +kernel
theorem dX0_put_70 : decode cX0_put 70 = .ok (.invokevirtual 42, 3) := by decide +kernel
theorem dX0_put_73 : decode cX0_put 73 = .ok (.iinc 6 1, 3) := by decide +kernel
theorem dX0_put_76 : decode cX0_put 76 = .ok (.goto (-45), 3) := by decide +kernel
theorem dX0_put_79 : decode cX0_put 79 = .ok (.iload_n 3, 1) := by decide +kernel
theorem dX0_put_80 : decode cX0_put 80 = .ok (.ireturn, 1) := by decide +kernel
set_option maxRecDepth 20000 in
theorem ggX0_spoil_X0_isThere : GoodIn wsX0_spoil wsX0_isThere := goodIn_r _ [6, 7, 8, 9, 5, 10, 11, 12, 13, 14, 15, 16, 29, 30, 31] (by decide +kernel) (by decide +kernel)
set_option maxRecDepth 20000 in
theorem gX0_spoil_X0_isThere : GoodIn wsX0_spoil (wsV RX0 30 RX0 yX0_isThere wsX0_isThere) := goodIn_app (goodIn_of _ (by decide +kernel)) ggX0_spoil_X0_isThere
set_option maxRecDepth 20000 in
theorem ggX0_spoil_X0_isSpan : GoodIn wsX0_spoil wsX0_isSpan := goodIn_r _ [19] (by decide +kernel) (by decide +kernel)
set_option maxRecDepth 20000 in
theorem gX0_spoil_X0_isSpan : GoodIn wsX0_spoil (va_wsS RX0 34 yX0_isSpan wsX0_isSpan) := goodIn_app (goodIn_of _ (by decide +kernel)) ggX0_spoil_X0_isSpan
set_option maxRecDepth 20000 in
theorem ggX0_spoil_X0_byteAt : GoodIn wsX0_spoil wsX0_byteAt := goodIn_r _ [23, 24, 29, 30, 31] (by decide +kernel) (by decide +kernel)
set_option maxRecDepth 20000 in
theorem gX0_spoil_X0_byteAt : GoodIn wsX0_spoil (wsV RX0 38 RX0 yX0_byteAt wsX0_byteAt) := goodIn_app (goodIn_of _ (by decide +kernel)) ggX0_spoil_X0_byteAt
set_option maxRecDepth 20000 in
theorem ggX0_spoil_X0_change : GoodIn wsX0_spoil wsX0_change := goodIn_r _ [28, 24, 29, 30, 31] (by decide +kernel) (by decide +kernel)
set_option maxRecDepth 20000 in
theorem gX0_spoil_X0_change : GoodIn wsX0_spoil (wsV RX0 47 RX0 yX0_change wsX0_change) := goodIn_app (goodIn_of _ (by decide +kernel)) ggX0_spoil_X0_change
theorem dX0_spoil_0 : decode cX0_spoil 0 = .ok (.aload_n 0, 1) := by decide +kernel
theorem dX0_spoil_1 : decode cX0_spoil 1 = .ok (.iload_n 1, 1) := by decide +kernel
theorem dX0_spoil_2 : decode cX0_spoil 2 = .ok (.invokevirtual 30, 3) := by decide +kernel
theorem dX0_spoil_5 : decode cX0_spoil 5 = .ok (.ifCond .eq 13, 3) := by decide +kernel
theorem dX0_spoil_8 : decode cX0_spoil 8 = .ok (.iload_n 2, 1) := by decide +kernel
theorem dX0_spoil_9 : decode cX0_spoil 9 = .ok (.iload_n 3, 1) := by decide +kernel
theorem dX0_spoil_10 : decode cX0_spoil 10 = .ok (.bipush 64, 2) := by decide +kernel
theorem dX0_spoil_12 : decode cX0_spoil 12 = .ok (.invokestatic 34, 3) := by decide +kernel
theorem dX0_spoil_15 : decode cX0_spoil 15 = .ok (.ifCond .ne 5, 3) := by decide +kernel
theorem dX0_spoil_18 : decode cX0_spoil 18 = .ok (.iconst (-1), 1) := by decide +kernel
theorem dX0_spoil_19 : decode cX0_spoil 19 = .ok (.ireturn, 1) := by decide +kernel
theorem dX0_spoil_20 : decode cX0_spoil 20 = .ok (.iload 4, 2) := by decide +kernel
theorem dX0_spoil_22 : decode cX0_spoil 22 = .ok (.istore 5, 2) := by decide +kernel
theorem dX0_spoil_24 : decode cX0_spoil 24 = .ok (.iconst 0, 1) := by decide +kernel
theorem dX0_spoil_25 : decode cX0_spoil 25 = .ok (.istore 6, 2) := by decide +kernel
theorem dX0_spoil_27 : decode cX0_spoil 27 = .ok (.iload 6, 2) := by decide +kernel
theorem dX0_spoil_29 : decode cX0_spoil 29 = .ok (.iload_n 3, 1) := by decide +kernel
theorem dX0_spoil_30 : decode cX0_spoil 30 = .ok (.if_icmp .ge 52, 3) := by decide +kernel
theorem dX0_spoil_33 : decode cX0_spoil 33 = .ok (.ldc 46, 2) := by decide +kernel
theorem dX0_spoil_35 : decode cX0_spoil 35 = .ok (.iload 5, 2) := by decide +kernel
theorem dX0_spoil_37 : decode cX0_spoil 37 = .ok (.imul, 1) := by decide +kernel
theorem dX0_spoil_38 : decode cX0_spoil 38 = .ok (.sipush 12345, 3) := by decide +kernel
theorem dX0_spoil_41 : decode cX0_spoil 41 = .ok (.iadd, 1) := by decide +kernel
theorem dX0_spoil_42 : decode cX0_spoil 42 = .ok (.istore 5, 2) := by decide +kernel
theorem dX0_spoil_44 : decode cX0_spoil 44 = .ok (.iload 5, 2) := by decide +kernel
theorem dX0_spoil_46 : decode cX0_spoil 46 = .ok (.bipush 16, 2) := by decide +kernel
theorem dX0_spoil_48 : decode cX0_spoil 48 = .ok (.iushr, 1) := by decide +kernel
theorem dX0_spoil_49 : decode cX0_spoil 49 = .ok (.sipush 255, 3) := by decide +kernel
theorem dX0_spoil_52 : decode cX0_spoil 52 = .ok (.iand, 1) := by decide +kernel
theorem dX0_spoil_53 : decode cX0_spoil 53 = .ok (.istore 7, 2) := by decide +kernel
theorem dX0_spoil_55 : decode cX0_spoil 55 = .ok (.aload_n 0, 1) := by decide +kernel
theorem dX0_spoil_56 : decode cX0_spoil 56 = .ok (.iload_n 1, 1) := by decide +kernel
theorem dX0_spoil_57 : decode cX0_spoil 57 = .ok (.iload_n 2, 1) := by decide +kernel
theorem dX0_spoil_58 : decode cX0_spoil 58 = .ok (.iload 6, 2) := by decide +kernel
theorem dX0_spoil_60 : decode cX0_spoil 60 = .ok (.iadd, 1) := by decide +kernel
theorem dX0_spoil_61 : decode cX0_spoil 61 = .ok (.aload_n 0, 1) := by decide +kernel
theorem dX0_spoil_62 : decode cX0_spoil 62 = .ok (.iload_n 1, 1) := by decide +kernel
theorem dX0_spoil_63 : decode cX0_spoil 63 = .ok (.iload_n 2, 1) := by decide +kernel
theorem dX0_spoil_64 : decode cX0_spoil 64 = .ok (.iload 6, 2) := by decide +kernel
theorem dX0_spoil_66 : decode cX0_spoil 66 = .ok (.iadd, 1) := by decide +kernel
theorem dX0_spoil_67 : decode cX0_spoil 67 = .ok (.invokevirtual 38, 3) := by decide +kernel
theorem dX0_spoil_70 : decode cX0_spoil 70 = .ok (.iload 7, 2) := by decide +kernel
theorem dX0_spoil_72 : decode cX0_spoil 72 = .ok (.ixor, 1) := by decide +kernel
theorem dX0_spoil_73 : decode cX0_spoil 73 = .ok (.invokevirtual 47, 3) := by decide +kernel
theorem dX0_spoil_76 : decode cX0_spoil 76 = .ok (.iinc 6 1, 3) := by decide +kernel
theorem dX0_spoil_79 : decode cX0_spoil 79 = .ok (.goto (-52), 3) := by decide +kernel
theorem dX0_spoil_82 : decode cX0_spoil 82 = .ok (.iload_n 3, 1) := by decide +kernel
theorem dX0_spoil_83 : decode cX0_spoil 83 = .ok (.ireturn, 1) := by decide +kernel
set_option maxRecDepth 20000 in
theorem ggX0_make_X0_unitP : GoodIn wsX0_make wsX0_unitP := goodIn_r _ [6, 7, 49, 50, 51] (by decide +kernel) (by decide +kernel)
set_option maxRecDepth 20000 in
theorem gX0_make_X0_unitP : GoodIn wsX0_make (wsV RX0 50 RX0 yX0_unitP wsX0_unitP) := goodIn_app (goodIn_of _ (by decide +kernel)) ggX0_make_X0_unitP
set_option maxRecDepth 20000 in
theorem ggX0_make_X0_restoreByP : GoodIn wsX0_make wsX0_restoreByP := goodIn_r _ [11, 12, 13, 14, 5, 15, 7, 2, 3, 4, 6, 16, 17, 18, 19, 20, 21, 22, 23, 24, 49, 50, 51] (by decide +kernel) (by decide +kernel)
set_option maxRecDepth 20000 in
theorem gX0_make_X0_restoreByP : GoodIn wsX0_make (wsV RX0 53 RX0 yX0_restoreByP wsX0_restoreByP) := goodIn_app (goodIn_of _ (by decide +kernel)) ggX0_make_X0_restoreByP
set_option maxRecDepth 20000 in
theorem ggX0_make_X0_unitQ : GoodIn wsX0_make wsX0_unitQ := goodIn_r _ [28, 7, 49, 50, 51] (by decide +kernel) (by decide +kernel)
set_option maxRecDepth 20000 in
theorem gX0_make_X0_unitQ : GoodIn wsX0_make (wsV RX0 57 RX0 yX0_unitQ wsX0_unitQ) := goodIn_app (goodIn_of _ (by decide +kernel)) ggX0_make_X0_unitQ
set_option maxRecDepth 20000 in
theorem ggX0_make_X0_restoreByQ : GoodIn wsX0_make wsX0_restoreByQ := goodIn_r _ [32, 25, 26, 27, 5, 28, 7, 33, 34, 35, 36, 37, 38, 39, 40, 41, 42, 43, 44, 45, 46, 47, 48, 16, 17, 18, 19, 20, 21, 22, 23, 24, 49, 50, 51] (by decide +kernel) (by decide +kernel)
set_option maxRecDepth 20000 in
theorem gX0_make_X0_restoreByQ : GoodIn wsX0_make (wsV RX0 60 RX0 yX0_restoreByQ wsX0_restoreByQ) := goodIn_app (goodIn_of _ (by decide +kernel)) ggX0_make_X0_restoreByQ
theorem dX0_make_0 : decode cX0_make 0 = .ok (.aload_n 0, 1) := by decide +kernel
theorem dX0_make_1 : decode cX0_make 1 = .ok (.getfield 17, 3) := by decide +kernel
theorem dX0_make_4 : decode cX0_make 4 = .ok (.ifCond .eq 5, 3) := by decide +kernel
theorem dX0_make_7 : decode cX0_make 7 = .ok (.iconst (-1), 1) := by decide +kernel
theorem dX0_make_8 : decode cX0_make 8 = .ok (.ireturn, 1) := by decide +kernel
theorem dX0_make_9 : decode cX0_make 9 = .ok (.aload_n 0, 1) := by decide +kernel
theorem dX0_make_10 : decode cX0_make 10 = .ok (.aload_n 0, 1) := by decide +kernel
theorem dX0_make_11 : decode cX0_make 11 = .ok (.invokevirtual 50, 3) := by decide +kernel
theorem dX0_make_14 : decode cX0_make 14 = .ok (.invokevirtual 53, 3) := by decide +kernel
theorem dX0_make_17 : decode cX0_make 17 = .ok (.aload_n 0, 1) := by decide +kernel
theorem dX0_make_18 : decode cX0_make 18 = .ok (.aload_n 0, 1) := by decide +kernel
theorem dX0_make_19 : decode cX0_make 19 = .ok (.invokevirtual 57, 3) := by decide +kernel
theorem dX0_make_22 : decode cX0_make 22 = .ok (.invokevirtual 60, 3) := by decide +kernel
theorem dX0_make_25 : decode cX0_make 25 = .ok (.iconst 0, 1) := by decide +kernel
theorem dX0_make_26 : decode cX0_make 26 = .ok (.ireturn, 1) := by decide +kernel
set_option maxRecDepth 20000 in
theorem ggX0_get_X0_isThere : GoodIn wsX0_get wsX0_isThere := goodIn_r _ [5, 6, 7, 8, 4, 9, 10, 11, 12, 13, 14, 15, 24, 25, 26] (by decide +kernel) (by decide +kernel)
set_option maxRecDepth 20000 in
theorem gX0_get_X0_isThere : GoodIn wsX0_get (wsV RX0 30 RX0 yX0_isThere wsX0_isThere) := goodIn_app (goodIn_of _ (by decide +kernel)) ggX0_get_X0_isThere
set_option maxRecDepth 20000 in
theorem ggX0_get_X0_isSpan : GoodIn wsX0_get wsX0_isSpan := goodIn_r _ [18] (by decide +kernel) (by decide +kernel)
set_option maxRecDepth 20000 in
theorem gX0_get_X0_isSpan : GoodIn wsX0_get (va_wsS RX0 34 yX0_isSpan wsX0_isSpan) := goodIn_app (goodIn_of _ (by decide +kernel)) ggX0_get_X0_isSpan
set_option maxRecDepth 20000 in
theorem ggX0_get_X0_byteAt : GoodIn wsX0_get wsX0_byteAt := goodIn_r _ [22, 23, 24, 25, 26] (by decide +kernel) (by decide +kernel)
set_option maxRecDepth 20000 in
theorem gX0_get_X0_byteAt : GoodIn wsX0_get (wsV RX0 38 RX0 yX0_byteAt wsX0_byteAt) := goodIn_app (goodIn_of _ (by decide +kernel)) ggX0_get_X0_byteAt
theorem dX0_get_0 : decode cX0_get 0 = .ok (.aload_n 0, 1) := by decide +kernel
theorem dX0_get_1 : decode cX0_get 1 = .ok (.iload_n 1, 1) := by decide +kernel
theorem dX0_get_2 : decode cX0_get 2 = .ok (.invokevirtual 30, 3) := by decide +kernel
theorem dX0_get_5 : decode cX0_get 5 = .ok (.ifCond .eq 12, 3) := by decide +kernel
theorem dX0_get_8 : decode cX0_get 8 = .ok (.iload_n 2, 1) := by decide +kernel
theorem dX0_get_9 : decode cX0_get 9 = .ok (.iconst 1, 1) := by decide +kernel
theorem dX0_get_10 : decode cX0_get 10 = .ok (.iconst 1, 1) := by decide +kernel
theorem dX0_get_11 : decode cX0_get 11 = .ok (.invokestatic 34, 3) := by decide +kernel
theorem dX0_get_14 : decode cX0_get 14 = .ok (.ifCond .ne 5, 3) := by decide +kernel
theorem dX0_get_17 : decode cX0_get 17 = .ok (.iconst (-1), 1) := by decide +kernel
theorem dX0_get_18 : decode cX0_get 18 = .ok (.ireturn, 1) := by decide +kernel
theorem dX0_get_19 : decode cX0_get 19 = .ok (.aload_n 0, 1) := by decide +kernel
theorem dX0_get_20 : decode cX0_get 20 = .ok (.iload_n 1, 1) := by decide +kernel
theorem dX0_get_21 : decode cX0_get 21 = .ok (.iload_n 2, 1) := by decide +kernel
theorem dX0_get_22 : decode cX0_get 22 = .ok (.invokevirtual 38, 3) := by decide +kernel
theorem dX0_get_25 : decode cX0_get 25 = .ok (.ireturn, 1) := by decide +kernel
set_option maxRecDepth 20000 in
theorem ggX0_word_X0_isThere : GoodIn wsX0_word wsX0_isThere := goodIn_r _ [5, 6, 7, 8, 4, 9, 10, 11, 12, 13, 14, 15, 21, 22, 23] (by decide +kernel) (by decide +kernel)
set_option maxRecDepth 20000 in
theorem gX0_word_X0_isThere : GoodIn wsX0_word (wsV RX0 30 RX0 yX0_isThere wsX0_isThere) := goodIn_app (goodIn_of _ (by decide +kernel)) ggX0_word_X0_isThere
set_option maxRecDepth 20000 in
theorem ggX0_word_X0_byteAt : GoodIn wsX0_word wsX0_byteAt := goodIn_r _ [19, 20, 21, 22, 23] (by decide +kernel) (by decide +kernel)
set_option maxRecDepth 20000 in
theorem gX0_word_X0_byteAt : GoodIn wsX0_word (wsV RX0 38 RX0 yX0_byteAt wsX0_byteAt) := goodIn_app (goodIn_of _ (by decide +kernel)) ggX0_word_X0_byteAt
theorem dX0_word_0 : decode cX0_word 0 = .ok (.aload_n 0, 1) := by decide +kernel
theorem dX0_word_1 : decode cX0_word 1 = .ok (.iload_n 1, 1) := by decide +kernel
theorem dX0_word_2 : decode cX0_word 2 = .ok (.invokevirtual 30, 3) := by decide +kernel
theorem dX0_word_5 : decode cX0_word 5 = .ok (.ifCond .eq 13, 3) := by decide +kernel
theorem dX0_word_8 : decode cX0_word 8 = .ok (.iload_n 2, 1) := by decide +kernel
theorem dX0_word_9 : decode cX0_word 9 = .ok (.ifCond .lt 9, 3) := by decide +kernel
theorem dX0_word_12 : decode cX0_word 12 = .ok (.iload_n 2, 1) := by decide +kernel
theorem dX0_word_13 : decode cX0_word 13 = .ok (.bipush 8, 2) := by decide +kernel
theorem dX0_word_15 : decode cX0_word 15 = .ok (.if_icmp .lt 5, 3) := by decide +kernel
theorem dX0_word_18 : decode cX0_word 18 = .ok (.lconst 0, 1) := by decide +kernel
theorem dX0_word_19 : decode cX0_word 19 = .ok (.lreturn, 1) := by decide +kernel
theorem dX0_word_20 : decode cX0_word 20 = .ok (.lconst 0, 1) := by decide +kernel
theorem dX0_word_21 : decode cX0_word 21 = .ok (.lstore_n 3, 1) := by decide +kernel
theorem dX0_word_22 : decode cX0_word 22 = .ok (.bipush 7, 2) := by decide +kernel
theorem dX0_word_24 : decode cX0_word 24 = .ok (.istore 5, 2) := by decide +kernel
theorem dX0_word_26 : decode cX0_word 26 = .ok (.iload 5, 2) := by decide +kernel
theorem dX0_word_28 : decode cX0_word 28 = .ok (.ifCond .lt 28, 3) := by decide +kernel
theorem dX0_word_31 : decode cX0_word 31 = .ok (.lload_n 3, 1) := by decide +kernel
theorem dX0_word_32 : decode cX0_word 32 = .ok (.bipush 8, 2) := by decide +kernel
theorem dX0_word_34 : decode cX0_word 34 = .ok (.lshl, 1) := by decide +kernel
theorem dX0_word_35 : decode cX0_word 35 = .ok (.aload_n 0, 1) := by decide +kernel
theorem dX0_word_36 : decode cX0_word 36 = .ok (.iload_n 1, 1) := by decide +kernel
theorem dX0_word_37 : decode cX0_word 37 = .ok (.bipush 8, 2) := by decide +kernel
theorem dX0_word_39 : decode cX0_word 39 = .ok (.iload_n 2, 1) := by decide +kernel
theorem dX0_word_40 : decode cX0_word 40 = .ok (.imul, 1) := by decide +kernel
theorem dX0_word_41 : decode cX0_word 41 = .ok (.iload 5, 2) := by decide +kernel
theorem dX0_word_43 : decode cX0_word 43 = .ok (.iadd, 1) := by decide +kernel
theorem dX0_word_44 : decode cX0_word 44 = .ok (.invokevirtual 38, 3) := by decide +kernel
theorem dX0_word_47 : decode cX0_word 47 = .ok (.i2l, 1) := by decide +kernel
theorem dX0_word_48 : decode cX0_word 48 = .ok (.lor, 1) := by decide +kernel
theorem dX0_word_49 : decode cX0_word 49 = .ok (.lstore_n 3, 1) := by decide +kernel
theorem dX0_word_50 : decode cX0_word 50 = .ok (.iinc 5 (-1), 3) := by decide +kernel
theorem dX0_word_53 : decode cX0_word 53 = .ok (.goto (-27), 3) := by decide +kernel
theorem dX0_word_56 : decode cX0_word 56 = .ok (.lload_n 3, 1) := by decide +kernel
theorem dX0_word_57 : decode cX0_word 57 = .ok (.lreturn, 1) := by decide +kernel
set_option maxRecDepth 20000 in
theorem ggX0_lose_X0_isThere : GoodIn wsX0_lose wsX0_isThere := goodIn_r _ [6, 7, 8, 9, 5, 10, 11, 12, 13, 14, 15, 1, 27, 28, 29] (by decide +kernel) (by decide +kernel)
set_option maxRecDepth 20000 in
theorem gX0_lose_X0_isThere : GoodIn wsX0_lose (wsV RX0 30 RX0 yX0_isThere wsX0_isThere) := goodIn_app (goodIn_of _ (by decide +kernel)) ggX0_lose_X0_isThere
set_option maxRecDepth 20000 in
theorem ggX0_lose_X0_lostCount : GoodIn wsX0_lose wsX0_lostCount := goodIn_r _ [19, 1, 20, 21, 22, 23, 24, 25, 26, 27, 28, 29] (by decide +kernel) (by decide +kernel)
set_option maxRecDepth 20000 in
theorem gX0_lose_X0_lostCount : GoodIn wsX0_lose (wsV RX0 63 RX0 yX0_lostCount wsX0_lostCount) := goodIn_app (goodIn_of _ (by decide +kernel)) ggX0_lose_X0_lostCount
theorem dX0_lose_0 : decode cX0_lose 0 = .ok (.aload_n 0, 1) := by decide +kernel
theorem dX0_lose_1 : decode cX0_lose 1 = .ok (.iload_n 1, 1) := by decide +kernel
theorem dX0_lose_2 : decode cX0_lose 2 = .ok (.invokevirtual 30, 3) := by decide +kernel
theorem dX0_lose_5 : decode cX0_lose 5 = .ok (.ifCond .ne 5, 3) := by decide +kernel
theorem dX0_lose_8 : decode cX0_lose 8 = .ok (.iconst (-1), 1) := by decide +kernel
theorem dX0_lose_9 : decode cX0_lose 9 = .ok (.ireturn, 1) := by decide +kernel
theorem dX0_lose_10 : decode cX0_lose 10 = .ok (.aload_n 0, 1) := by decide +kernel
theorem dX0_lose_11 : decode cX0_lose 11 = .ok (.invokevirtual 63, 3) := by decide +kernel
theorem dX0_lose_14 : decode cX0_lose 14 = .ok (.iconst 2, 1) := by decide +kernel
theorem dX0_lose_15 : decode cX0_lose 15 = .ok (.if_icmp .ne 6, 3) := by decide +kernel
theorem dX0_lose_18 : decode cX0_lose 18 = .ok (.bipush (-3), 2) := by decide +kernel
theorem dX0_lose_20 : decode cX0_lose 20 = .ok (.ireturn, 1) := by decide +kernel
theorem dX0_lose_21 : decode cX0_lose 21 = .ok (.aload_n 0, 1) := by decide +kernel
theorem dX0_lose_22 : decode cX0_lose 22 = .ok (.dup, 1) := by decide +kernel
theorem dX0_lose_23 : decode cX0_lose 23 = .ok (.getfield 17, 3) := by decide +kernel
theorem dX0_lose_26 : decode cX0_lose 26 = .ok (.iconst 1, 1) := by decide +kernel
theorem dX0_lose_27 : decode cX0_lose 27 = .ok (.iload_n 1, 1) := by decide +kernel
theorem dX0_lose_28 : decode cX0_lose 28 = .ok (.ishl, 1) := by decide +kernel
theorem dX0_lose_29 : decode cX0_lose 29 = .ok (.ior, 1) := by decide +kernel
theorem dX0_lose_30 : decode cX0_lose 30 = .ok (.putfield 17, 3) := by decide +kernel
theorem dX0_lose_33 : decode cX0_lose 33 = .ok (.aload_n 0, 1) := by decide +kernel
theorem dX0_lose_34 : decode cX0_lose 34 = .ok (.invokevirtual 63, 3) := by decide +kernel
theorem dX0_lose_37 : decode cX0_lose 37 = .ok (.ireturn, 1) := by decide +kernel
set_option maxRecDepth 20000 in
theorem ggX0_mend_X0_lostFrom : GoodIn wsX0_mend wsX0_lostFrom := goodIn_r _ [6, 7, 8, 9, 5, 10, 11, 12, 13, 14, 15, 1, 73, 74, 75] (by decide +kernel) (by decide +kernel)
set_option maxRecDepth 20000 in
theorem gX0_mend_X0_lostFrom : GoodIn wsX0_mend (wsV RX0 66 RX0 yX0_lostFrom wsX0_lostFrom) := goodIn_app (goodIn_of _ (by decide +kernel)) ggX0_mend_X0_lostFrom
set_option maxRecDepth 20000 in
theorem ggX0_mend_X0_restoreOne : GoodIn wsX0_mend wsX0_restoreOne := goodIn_r _ [19, 20, 21, 22, 5, 23, 11, 24, 25, 26, 27, 28, 29, 30, 31, 32, 33, 34, 35, 36, 37, 38, 39, 40, 41, 42, 43, 44, 45, 46, 47, 48, 49, 50, 51, 52, 53, 54, 55, 56, 57, 58, 59, 60, 61, 62, 63, 64, 73, 74, 75] (by decide +kernel) (by decide +kernel)
set_option maxRecDepth 20000 in
theorem gX0_mend_X0_restoreOne : GoodIn wsX0_mend (wsV RX0 70 RX0 yX0_restoreOne wsX0_restoreOne) := goodIn_app (goodIn_of _ (by decide +kernel)) ggX0_mend_X0_restoreOne
set_option maxRecDepth 20000 in
theorem ggX0_mend_X0_restoreTwo : GoodIn wsX0_mend wsX0_restoreTwo := goodIn_r _ [68, 20, 21, 22, 5, 23, 11, 53, 54, 55, 56, 57, 58, 59, 60, 61, 62, 63, 64, 44, 45, 46, 47, 48, 49, 50, 51, 52, 24, 25, 26, 27, 28, 29, 30, 31, 32, 33, 34, 35, 36, 37, 38, 39, 40, 41, 42, 43, 69, 70, 71, 72, 73, 74, 75] (by decide +kernel) (by decide +kernel)
set_option maxRecDepth 20000 in
theorem gX0_mend_X0_restoreTwo : GoodIn wsX0_mend (wsV RX0 73 RX0 yX0_restoreTwo wsX0_restoreTwo) := goodIn_app (goodIn_of _ (by decide +kernel)) ggX0_mend_X0_restoreTwo
theorem dX0_mend_0 : decode cX0_mend 0 = .ok (.aload_n 0, 1) := by decide +kernel
theorem dX0_mend_1 : decode cX0_mend 1 = .ok (.iconst 0, 1) := by decide +kernel
theorem dX0_mend_2 : decode cX0_mend 2 = .ok (.invokevirtual 66, 3) := by decide +kernel
theorem dX0_mend_5 : decode cX0_mend 5 = .ok (.istore_n 1, 1) := by decide +kernel
theorem dX0_mend_6 : decode cX0_mend 6 = .ok (.iload_n 1, 1) := by decide +kernel
theorem dX0_mend_7 : decode cX0_mend 7 = .ok (.iconst (-1), 1) := by decide +kernel
theorem dX0_mend_8 : decode cX0_mend 8 = .ok (.if_icmp .ne 5, 3) := by decide +kernel
theorem dX0_mend_11 : decode cX0_mend 11 = .ok (.iconst 0, 1) := by decide +kernel
theorem dX0_mend_12 : decode cX0_mend 12 = .ok (.ireturn, 1) := by decide +kernel
theorem dX0_mend_13 : decode cX0_mend 13 = .ok (.aload_n 0, 1) := by decide +kernel
theorem dX0_mend_14 : decode cX0_mend 14 = .ok (.iload_n 1, 1) := by decide +kernel
theorem dX0_mend_15 : decode cX0_mend 15 = .ok (.iconst 1, 1) := by decide +kernel
theorem dX0_mend_16 : decode cX0_mend 16 = .ok (.iadd, 1) := by decide +kernel
theorem dX0_mend_17 : decode cX0_mend 17 = .ok (.invokevirtual 66, 3) := by decide +kernel
theorem dX0_mend_20 : decode cX0_mend 20 = .ok (.istore_n 2, 1) := by decide +kernel
theorem dX0_mend_21 : decode cX0_mend 21 = .ok (.aload_n 0, 1) := by decide +kernel
theorem dX0_mend_22 : decode cX0_mend 22 = .ok (.iconst 0, 1) := by decide +kernel
theorem dX0_mend_23 : decode cX0_mend 23 = .ok (.putfield 17, 3) := by decide +kernel
theorem dX0_mend_26 : decode cX0_mend 26 = .ok (.iload_n 2, 1) := by decide +kernel
theorem dX0_mend_27 : decode cX0_mend 27 = .ok (.iconst (-1), 1) := by decide +kernel
theorem dX0_mend_28 : decode cX0_mend 28 = .ok (.if_icmp .ne 10, 3) := by decide +kernel
theorem dX0_mend_31 : decode cX0_mend 31 = .ok (.aload_n 0, 1) := by decide +kernel
theorem dX0_mend_32 : decode cX0_mend 32 = .ok (.iload_n 1, 1) := by decide +kernel
theorem dX0_mend_33 : decode cX0_mend 33 = .ok (.invokevirtual 70, 3) := by decide +kernel
theorem dX0_mend_36 : decode cX0_mend 36 = .ok (.iconst 1, 1) := by decide +kernel
theorem dX0_mend_37 : decode cX0_mend 37 = .ok (.ireturn, 1) := by decide +kernel
theorem dX0_mend_38 : decode cX0_mend 38 = .ok (.aload_n 0, 1) := by decide +kernel
theorem dX0_mend_39 : decode cX0_mend 39 = .ok (.iload_n 1, 1) := by decide +kernel
theorem dX0_mend_40 : decode cX0_mend 40 = .ok (.iload_n 2, 1) := by decide +kernel
theorem dX0_mend_41 : decode cX0_mend 41 = .ok (.invokevirtual 73, 3) := by decide +kernel
theorem dX0_mend_44 : decode cX0_mend 44 = .ok (.iconst 2, 1) := by decide +kernel
theorem dX0_mend_45 : decode cX0_mend 45 = .ok (.ireturn, 1) := by decide +kernel
set_option maxRecDepth 20000 in
theorem ggX0_check_X0_offAt : GoodIn wsX0_check wsX0_offAt := goodIn_r _ [6, 7, 8, 9, 10, 5, 11, 12, 13, 14, 15, 16, 17, 18, 19, 20, 21, 22, 23, 24, 25, 26, 27, 28, 29, 30, 31, 32, 33, 34] (by decide +kernel) (by decide +kernel)
set_option maxRecDepth 20000 in
theorem gX0_check_X0_offAt : GoodIn wsX0_check (wsV RX0 77 RX0 yX0_offAt wsX0_offAt) := goodIn_app (goodIn_of _ (by decide +kernel)) ggX0_check_X0_offAt
theorem dX0_check_0 : decode cX0_check 0 = .ok (.aload_n 0, 1) := by decide +kernel
theorem dX0_check_1 : decode cX0_check 1 = .ok (.getfield 17, 3) := by decide +kernel
theorem dX0_check_4 : decode cX0_check 4 = .ok (.ifCond .eq 5, 3) := by decide +kernel
theorem dX0_check_7 : decode cX0_check 7 = .ok (.iconst (-1), 1) := by decide +kernel
theorem dX0_check_8 : decode cX0_check 8 = .ok (.ireturn, 1) := by decide +kernel
theorem dX0_check_9 : decode cX0_check 9 = .ok (.bipush (-2), 2) := by decide +kernel
theorem dX0_check_11 : decode cX0_check 11 = .ok (.istore_n 1, 1) := by decide +kernel
theorem dX0_check_12 : decode cX0_check 12 = .ok (.iconst 0, 1) := by decide +kernel
theorem dX0_check_13 : decode cX0_check 13 = .ok (.istore_n 2, 1) := by decide +kernel
theorem dX0_check_14 : decode cX0_check 14 = .ok (.iload_n 2, 1) := by decide +kernel
theorem dX0_check_15 : decode cX0_check 15 = .ok (.bipush 64, 2) := by decide +kernel
theorem dX0_check_17 : decode cX0_check 17 = .ok (.if_icmp .ge 43, 3) := by decide +kernel
theorem dX0_check_20 : decode cX0_check 20 = .ok (.aload_n 0, 1) := by decide +kernel
theorem dX0_check_21 : decode cX0_check 21 = .ok (.iload_n 2, 1) := by decide +kernel
theorem dX0_check_22 : decode cX0_check 22 = .ok (.invokevirtual 77, 3) := by decide +kernel
theorem dX0_check_25 : decode cX0_check 25 = .ok (.istore_n 3, 1) := by decide +kernel
theorem dX0_check_26 : decode cX0_check 26 = .ok (.iload_n 3, 1) := by decide +kernel
theorem dX0_check_27 : decode cX0_check 27 = .ok (.bipush (-2), 2) := by decide +kernel
theorem dX0_check_29 : decode cX0_check 29 = .ok (.if_icmp .eq 17, 3) := by decide +kernel
theorem dX0_check_32 : decode cX0_check 32 = .ok (.iload_n 1, 1) := by decide +kernel
theorem dX0_check_33 : decode cX0_check 33 = .ok (.bipush (-2), 2) := by decide +kernel
theorem dX0_check_35 : decode cX0_check 35 = .ok (.if_icmp .eq 11, 3) := by decide +kernel
theorem dX0_check_38 : decode cX0_check 38 = .ok (.iload_n 3, 1) := by decide +kernel
theorem dX0_check_39 : decode cX0_check 39 = .ok (.iload_n 1, 1) := by decide +kernel
theorem dX0_check_40 : decode cX0_check 40 = .ok (.if_icmp .eq 6, 3) := by decide +kernel
theorem dX0_check_43 : decode cX0_check 43 = .ok (.bipush (-3), 2) := by decide +kernel
theorem dX0_check_45 : decode cX0_check 45 = .ok (.ireturn, 1) := by decide +kernel
theorem dX0_check_46 : decode cX0_check 46 = .ok (.iload_n 3, 1) := by decide +kernel
theorem dX0_check_47 : decode cX0_check 47 = .ok (.bipush (-2), 2) := by decide +kernel
theorem dX0_check_49 : decode cX0_check 49 = .ok (.if_icmp .eq 5, 3) := by decide +kernel
theorem dX0_check_52 : decode cX0_check 52 = .ok (.iload_n 3, 1) := by decide +kernel
theorem dX0_check_53 : decode cX0_check 53 = .ok (.istore_n 1, 1) := by decide +kernel
theorem dX0_check_54 : decode cX0_check 54 = .ok (.iinc 2 1, 3) := by decide +kernel
theorem dX0_check_57 : decode cX0_check 57 = .ok (.goto (-43), 3) := by decide +kernel
theorem dX0_check_60 : decode cX0_check 60 = .ok (.iload_n 1, 1) := by decide +kernel
theorem dX0_check_61 : decode cX0_check 61 = .ok (.ireturn, 1) := by decide +kernel
set_option maxRecDepth 20000 in
theorem ggX0_fix_X0_check : GoodIn wsX0_fix wsX0_check := goodIn_r _ [5, 6, 7, 8, 9, 4, 10, 11, 12, 13, 14, 15, 16, 17, 18, 19, 20, 21, 22, 23, 24, 25, 26, 27, 28, 29, 30, 31, 32, 33, 34, 35, 61, 62, 63] (by decide +kernel) (by decide +kernel)
set_option maxRecDepth 20000 in
theorem gX0_fix_X0_check : GoodIn wsX0_fix (wsV RX0 80 RX0 yX0_check wsX0_check) := goodIn_app (goodIn_of _ (by decide +kernel)) ggX0_fix_X0_check
set_option maxRecDepth 20000 in
theorem ggX0_fix_X0_restoreOne : GoodIn wsX0_fix wsX0_restoreOne := goodIn_r _ [39, 32, 33, 34, 4, 35, 11, 40, 41, 42, 43, 44, 45, 46, 29, 30, 31, 47, 48, 49, 50, 51, 52, 25, 26, 27, 28, 20, 21, 22, 23, 24, 53, 54, 55, 56, 57, 58, 59, 60, 12, 13, 14, 15, 16, 17, 18, 19, 61, 62, 63] (by decide +kernel) (by decide +kernel)
set_option maxRecDepth 20000 in
theorem gX0_fix_X0_restoreOne : GoodIn wsX0_fix (wsV RX0 70 RX0 yX0_restoreOne wsX0_restoreOne) := goodIn_app (goodIn_of _ (by decide +kernel)) ggX0_fix_X0_restoreOne
theorem dX0_fix_0 : decode cX0_fix 0 = .ok (.aload_n 0, 1) := by decide +kernel
theorem dX0_fix_1 : decode cX0_fix 1 = .ok (.invokevirtual 80, 3) := by decide +kernel
theorem dX0_fix_4 : decode cX0_fix 4 = .ok (.istore_n 1, 1) := by decide +kernel
theorem dX0_fix_5 : decode cX0_fix 5 = .ok (.iload_n 1, 1) := by decide +kernel
theorem dX0_fix_6 : decode cX0_fix 6 = .ok (.ifCond .lt 8, 3) := by decide +kernel
theorem dX0_fix_9 : decode cX0_fix 9 = .ok (.aload_n 0, 1) := by decide +kernel
theorem dX0_fix_10 : decode cX0_fix 10 = .ok (.iload_n 1, 1) := by decide +kernel
theorem dX0_fix_11 : decode cX0_fix 11 = .ok (.invokevirtual 70, 3) := by decide +kernel
theorem dX0_fix_14 : decode cX0_fix 14 = .ok (.iload_n 1, 1) := by decide +kernel
theorem dX0_fix_15 : decode cX0_fix 15 = .ok (.ireturn, 1) := by decide +kernel
set_option maxRecDepth 20000 in
theorem ggX0_count_X0_units : GoodIn wsX0_count wsX0_units := goodIn_r _ [5, 6, 27, 28, 29] (by decide +kernel) (by decide +kernel)
set_option maxRecDepth 20000 in
theorem gX0_count_X0_units : GoodIn wsX0_count (wsV RX0 26 RX0 yX0_units wsX0_units) := goodIn_app (goodIn_of _ (by decide +kernel)) ggX0_count_X0_units
set_option maxRecDepth 20000 in
theorem ggX0_count_X0_lostCount : GoodIn wsX0_count wsX0_lostCount := goodIn_r _ [10, 11, 12, 13, 14, 15, 16, 17, 18, 27, 28, 29] (by decide +kernel) (by decide +kernel)
set_option maxRecDepth 20000 in
theorem gX0_count_X0_lostCount : GoodIn wsX0_count (wsV RX0 63 RX0 yX0_lostCount wsX0_lostCount) := goodIn_app (goodIn_of _ (by decide +kernel)) ggX0_count_X0_lostCount
set_option maxRecDepth 20000 in
theorem ggX0_count_X0_lostFrom : GoodIn wsX0_count wsX0_lostFrom := goodIn_r _ [22, 1, 2, 3, 4, 5, 6, 23, 24, 25, 26, 11, 27, 28, 29] (by decide +kernel) (by decide +kernel)
set_option maxRecDepth 20000 in
theorem gX0_count_X0_lostFrom : GoodIn wsX0_count (wsV RX0 66 RX0 yX0_lostFrom wsX0_lostFrom) := goodIn_app (goodIn_of _ (by decide +kernel)) ggX0_count_X0_lostFrom
theorem dX0_count_0 : decode cX0_count 0 = .ok (.iload_n 1, 1) := by decide +kernel
theorem dX0_count_1 : decode cX0_count 1 = .ok (.tableswitch 43 0 2 #[27, 32, 37], 27) := by decide +kernel
theorem dX0_count_28 : decode cX0_count 28 = .ok (.aload_n 0, 1) := by decide +kernel
theorem dX0_count_29 : decode cX0_count 29 = .ok (.invokevirtual 26, 3) := by decide +kernel
theorem dX0_count_32 : decode cX0_count 32 = .ok (.ireturn, 1) := by decide +kernel
theorem dX0_count_33 : decode cX0_count 33 = .ok (.aload_n 0, 1) := by decide +kernel
theorem dX0_count_34 : decode cX0_count 34 = .ok (.invokevirtual 63, 3) := by decide +kernel
theorem dX0_count_37 : decode cX0_count 37 = .ok (.ireturn, 1) := by decide +kernel
theorem dX0_count_38 : decode cX0_count 38 = .ok (.aload_n 0, 1) := by decide +kernel
theorem dX0_count_39 : decode cX0_count 39 = .ok (.iconst 0, 1) := by decide +kernel
theorem dX0_count_40 : decode cX0_count 40 = .ok (.invokevirtual 66, 3) := by decide +kernel
theorem dX0_count_43 : decode cX0_count 43 = .ok (.ireturn, 1) := by decide +kernel
theorem dX0_count_44 : decode cX0_count 44 = .ok (.iconst (-1), 1) := by decide +kernel
theorem dX0_count_45 : decode cX0_count 45 = .ok (.ireturn, 1) := by decide +kernel
set_option maxRecDepth 20000 in
theorem ggX0_product_X0_isElement : GoodIn wsX0_product wsX0_isElement := goodIn_r _ [4] (by decide +kernel) (by decide +kernel)
set_option maxRecDepth 20000 in
theorem gX0_product_X0_isElement : GoodIn wsX0_product (va_wsS RX0 83 yX0_isElement wsX0_isElement) := goodIn_app (goodIn_of _ (by decide +kernel)) ggX0_product_X0_isElement
set_option maxRecDepth 20000 in
theorem ggX0_product_X0_inverse : GoodIn wsX0_product wsX0_inverse := goodIn_r _ [7, 8, 9, 3, 10, 11, 12, 13] (by decide +kernel) (by decide +kernel)
set_option maxRecDepth 20000 in
theorem gX0_product_X0_inverse : GoodIn wsX0_product (va_wsS RX0 86 yX0_inverse wsX0_inverse) := goodIn_app (goodIn_of _ (by decide +kernel)) ggX0_product_X0_inverse
set_option maxRecDepth 20000 in
theorem ggX0_product_X0_multiplied : GoodIn wsX0_product wsX0_multiplied := goodIn_r _ [10, 11, 12, 3, 13] (by decide +kernel) (by decide +kernel)
set_option maxRecDepth 20000 in
theorem gX0_product_X0_multiplied : GoodIn wsX0_product (va_wsS RX0 89 yX0_multiplied wsX0_multiplied) := goodIn_app (goodIn_of _ (by decide +kernel)) ggX0_product_X0_multiplied
theorem dX0_product_0 : decode cX0_product 0 = .ok (.iload_n 1, 1) := by decide +kernel
theorem dX0_product_1 : decode cX0_product 1 = .ok (.invokestatic 83, 3) := by decide +kernel
theorem dX0_product_4 : decode cX0_product 4 = .ok (.ifCond .eq 18, 3) := by decide +kernel
theorem dX0_product_7 : decode cX0_product 7 = .ok (.iload_n 2, 1) := by decide +kernel
theorem dX0_product_8 : decode cX0_product 8 = .ok (.invokestatic 83, 3) := by decide +kernel
theorem dX0_product_11 : decode cX0_product 11 = .ok (.ifCond .eq 11, 3) := by decide +kernel
theorem dX0_product_14 : decode cX0_product 14 = .ok (.iload_n 3, 1) := by decide +kernel
theorem dX0_product_15 : decode cX0_product 15 = .ok (.ifCond .eq 9, 3) := by decide +kernel
theorem dX0_product_18 : decode cX0_product 18 = .ok (.iload_n 2, 1) := by decide +kernel
theorem dX0_product_19 : decode cX0_product 19 = .ok (.ifCond .ne 5, 3) := by decide +kernel
theorem dX0_product_22 : decode cX0_product 22 = .ok (.iconst (-1), 1) := by decide +kernel
theorem dX0_product_23 : decode cX0_product 23 = .ok (.ireturn, 1) := by decide +kernel
theorem dX0_product_24 : decode cX0_product 24 = .ok (.iload_n 1, 1) := by decide +kernel
theorem dX0_product_25 : decode cX0_product 25 = .ok (.iload_n 3, 1) := by decide +kernel
theorem dX0_product_26 : decode cX0_product 26 = .ok (.ifCond .eq 10, 3) := by decide +kernel
theorem dX0_product_29 : decode cX0_product 29 = .ok (.iload_n 2, 1) := by decide +kernel
theorem dX0_product_30 : decode cX0_product 30 = .ok (.invokestatic 86, 3) := by decide +kernel
theorem dX0_product_33 : decode cX0_product 33 = .ok (.goto 4, 3) := by decide +kernel
theorem dX0_product_36 : decode cX0_product 36 = .ok (.iload_n 2, 1) := by decide +kernel
theorem dX0_product_37 : decode cX0_product 37 = .ok (.invokestatic 89, 3) := by decide +kernel
theorem dX0_product_40 : decode cX0_product 40 = .ok (.ireturn, 1) := by decide +kernel
set_option maxRecDepth 20000 in
theorem ggX0_power_J9_floorMod_7cf53 : GoodIn wsX0_power wsJ9_floorMod_7cf53 := goodIn_r _ [4] (by decide +kernel) (by decide +kernel)
set_option maxRecDepth 20000 in
theorem gX0_power_J9_floorMod_7cf53 : GoodIn wsX0_power (va_wsS RX0 92 yJ9_floorMod_7cf53 wsJ9_floorMod_7cf53) := goodIn_app (goodIn_of _ (by decide +kernel)) ggX0_power_J9_floorMod_7cf53
set_option maxRecDepth 20000 in
theorem ggX0_power_X0_timesPower : GoodIn wsX0_power wsX0_timesPower := goodIn_r _ [8, 9, 10, 7, 11] (by decide +kernel) (by decide +kernel)
set_option maxRecDepth 20000 in
theorem gX0_power_X0_timesPower : GoodIn wsX0_power (va_wsS RX0 97 yX0_timesPower wsX0_timesPower) := goodIn_app (goodIn_of _ (by decide +kernel)) ggX0_power_X0_timesPower
theorem dX0_power_0 : decode cX0_power 0 = .ok (.iconst 1, 1) := by decide +kernel
theorem dX0_power_1 : decode cX0_power 1 = .ok (.iload_n 1, 1) := by decide +kernel
theorem dX0_power_2 : decode cX0_power 2 = .ok (.sipush 255, 3) := by decide +kernel
theorem dX0_power_5 : decode cX0_power 5 = .ok (.invokestatic 92, 3) := by decide +kernel
theorem dX0_power_8 : decode cX0_power 8 = .ok (.invokestatic 97, 3) := by decide +kernel
theorem dX0_power_11 : decode cX0_power 11 = .ok (.ireturn, 1) := by decide +kernel
theorem dX0_units_0 : decode cX0_units 0 = .ok (.aload_n 0, 1) := by decide +kernel
theorem dX0_units_1 : decode cX0_units 1 = .ok (.getfield 13, 3) := by decide +kernel
theorem dX0_units_4 : decode cX0_units 4 = .ok (.iconst 2, 1) := by decide +kernel
theorem dX0_units_5 : decode cX0_units 5 = .ok (.iadd, 1) := by decide +kernel
theorem dX0_units_6 : decode cX0_units 6 = .ok (.ireturn, 1) := by decide +kernel
theorem dX0_unitP_0 : decode cX0_unitP 0 = .ok (.aload_n 0, 1) := by decide +kernel
theorem dX0_unitP_1 : decode cX0_unitP 1 = .ok (.getfield 13, 3) := by decide +kernel
theorem dX0_unitP_4 : decode cX0_unitP 4 = .ok (.ireturn, 1) := by decide +kernel
theorem dX0_unitQ_0 : decode cX0_unitQ 0 = .ok (.aload_n 0, 1) := by decide +kernel
theorem dX0_unitQ_1 : decode cX0_unitQ 1 = .ok (.getfield 13, 3) := by decide +kernel
theorem dX0_unitQ_4 : decode cX0_unitQ 4 = .ok (.iconst 1, 1) := by decide +kernel
theorem dX0_unitQ_5 : decode cX0_unitQ 5 = .ok (.iadd, 1) := by decide +kernel
theorem dX0_unitQ_6 : decode cX0_unitQ 6 = .ok (.ireturn, 1) := by decide +kernel
set_option maxRecDepth 20000 in
theorem ggX0_isThere_X0_units : GoodIn wsX0_isThere wsX0_units := goodIn_r _ [5, 6, 12, 13, 14] (by decide +kernel) (by decide +kernel)
set_option maxRecDepth 20000 in
theorem gX0_isThere_X0_units : GoodIn wsX0_isThere (wsV RX0 26 RX0 yX0_units wsX0_units) := goodIn_app (goodIn_of _ (by decide +kernel)) ggX0_isThere_X0_units
set_option maxRecDepth 20000 in
theorem ggX0_isThere_X0_isLost : GoodIn wsX0_isThere wsX0_isLost := goodIn_r _ [10, 11, 12, 13, 14] (by decide +kernel) (by decide +kernel)
set_option maxRecDepth 20000 in
theorem gX0_isThere_X0_isLost : GoodIn wsX0_isThere (wsV RX0 100 RX0 yX0_isLost wsX0_isLost) := goodIn_app (goodIn_of _ (by decide +kernel)) ggX0_isThere_X0_isLost
theorem dX0_isThere_0 : decode cX0_isThere 0 = .ok (.iload_n 1, 1) := by decide +kernel
theorem dX0_isThere_1 : decode cX0_isThere 1 = .ok (.ifCond .lt 23, 3) := by decide +kernel
theorem dX0_isThere_4 : decode cX0_isThere 4 = .ok (.iload_n 1, 1) := by decide +kernel
theorem dX0_isThere_5 : decode cX0_isThere 5 = .ok (.aload_n 0, 1) := by decide +kernel
theorem dX0_isThere_6 : decode cX0_isThere 6 = .ok (.invokevirtual 26, 3) := by decide +kernel
theorem dX0_isThere_9 : decode cX0_isThere 9 = .ok (.if_icmp .ge 15, 3) := by decide +kernel
theorem dX0_isThere_12 : decode cX0_isThere 12 = .ok (.aload_n 0, 1) := by decide +kernel
theorem dX0_isThere_13 : decode cX0_isThere 13 = .ok (.iload_n 1, 1) := by decide +kernel
theorem dX0_isThere_14 : decode cX0_isThere 14 = .ok (.invokevirtual 100, 3) := by decide +kernel
theorem dX0_isThere_17 : decode cX0_isThere 17 = .ok (.ifCond .ne 7, 3) := by decide +kernel
theorem dX0_isThere_20 : decode cX0_isThere 20 = .ok (.iconst 1, 1) := by decide +kernel
theorem dX0_isThere_21 : decode cX0_isThere 21 = .ok (.goto 4, 3) := by decide +kernel
theorem dX0_isThere_24 : decode cX0_isThere 24 = .ok (.iconst 0, 1) := by decide +kernel
theorem dX0_isThere_25 : decode cX0_isThere 25 = .ok (.ireturn, 1) := by decide +kernel
theorem dX0_isLost_0 : decode cX0_isLost 0 = .ok (.aload_n 0, 1) := by decide +kernel
theorem dX0_isLost_1 : decode cX0_isLost 1 = .ok (.getfield 17, 3) := by decide +kernel
theorem dX0_isLost_4 : decode cX0_isLost 4 = .ok (.iload_n 1, 1) := by decide +kernel
theorem dX0_isLost_5 : decode cX0_isLost 5 = .ok (.ishr, 1) := by decide +kernel
theorem dX0_isLost_6 : decode cX0_isLost 6 = .ok (.iconst 1, 1) := by decide +kernel
theorem dX0_isLost_7 : decode cX0_isLost 7 = .ok (.iand, 1) := by decide +kernel
theorem dX0_isLost_8 : decode cX0_isLost 8 = .ok (.ifCond .eq 7, 3) := by decide +kernel
theorem dX0_isLost_11 : decode cX0_isLost 11 = .ok (.iconst 1, 1) := by decide +kernel
theorem dX0_isLost_12 : decode cX0_isLost 12 = .ok (.goto 4, 3) := by decide +kernel
theorem dX0_isLost_15 : decode cX0_isLost 15 = .ok (.iconst 0, 1) := by decide +kernel
theorem dX0_isLost_16 : decode cX0_isLost 16 = .ok (.ireturn, 1) := by decide +kernel
set_option maxRecDepth 20000 in
theorem ggX0_lostCount_J6_bitCount_0f7a4 : GoodIn wsX0_lostCount wsJ6_bitCount_0f7a4 := goodIn_r _ [5, 6, 7, 8] (by decide +kernel) (by decide +kernel)
set_option maxRecDepth 20000 in
theorem gX0_lostCount_J6_bitCount_0f7a4 : GoodIn wsX0_lostCount (va_wsS RX0 103 yJ6_bitCount_0f7a4 wsJ6_bitCount_0f7a4) := goodIn_app (goodIn_of _ (by decide +kernel)) ggX0_lostCount_J6_bitCount_0f7a4
theorem dX0_lostCount_0 : decode cX0_lostCount 0 = .ok (.aload_n 0, 1) := by decide +kernel
theorem dX0_lostCount_1 : decode cX0_lostCount 1 = .ok (.getfield 17, 3) := by decide +kernel
theorem dX0_lostCount_4 : decode cX0_lostCount 4 = .ok (.invokestatic 103, 3) := by decide +kernel
theorem dX0_lostCount_7 : decode cX0_lostCount 7 = .ok (.ireturn, 1) := by decide +kernel
set_option maxRecDepth 20000 in
theorem ggX0_lostFrom_X0_units : GoodIn wsX0_lostFrom wsX0_units := goodIn_r _ [5, 6, 12, 13, 14] (by decide +kernel) (by decide +kernel)
set_option maxRecDepth 20000 in
theorem gX0_lostFrom_X0_units : GoodIn wsX0_lostFrom (wsV RX0 26 RX0 yX0_units wsX0_units) := goodIn_app (goodIn_of _ (by decide +kernel)) ggX0_lostFrom_X0_units
set_option maxRecDepth 20000 in
theorem ggX0_lostFrom_X0_isLost : GoodIn wsX0_lostFrom wsX0_isLost := goodIn_r _ [10, 11, 12, 13, 14] (by decide +kernel) (by decide +kernel)
set_option maxRecDepth 20000 in
theorem gX0_lostFrom_X0_isLost : GoodIn wsX0_lostFrom (wsV RX0 100 RX0 yX0_isLost wsX0_isLost) := goodIn_app (goodIn_of _ (by decide +kernel)) ggX0_lostFrom_X0_isLost
theorem dX0_lostFrom_0 : decode cX0_lostFrom 0 = .ok (.iload_n 1, 1) := by decide +kernel
theorem dX0_lostFrom_1 : decode cX0_lostFrom 1 = .ok (.istore_n 2, 1) := by decide +kernel
theorem dX0_lostFrom_2 : decode cX0_lostFrom 2 = .ok (.iload_n 2, 1) := by decide +kernel
theorem dX0_lostFrom_3 : decode cX0_lostFrom 3 = .ok (.aload_n 0, 1) := by decide +kernel
theorem dX0_lostFrom_4 : decode cX0_lostFrom 4 = .ok (.invokevirtual 26, 3) := by decide +kernel
theorem dX0_lostFrom_7 : decode cX0_lostFrom 7 = .ok (.if_icmp .ge 19, 3) := by decide +kernel
theorem dX0_lostFrom_10 : decode cX0_lostFrom 10 = .ok (.aload_n 0, 1) := by decide +kernel
theorem dX0_lostFrom_11 : decode cX0_lostFrom 11 = .ok (.iload_n 2, 1) := by decide +kernel
theorem dX0_lostFrom_12 : decode cX0_lostFrom 12 = .ok (.invokevirtual 100, 3) := by decide +kernel
theorem dX0_lostFrom_15 : decode cX0_lostFrom 15 = .ok (.ifCond .eq 5, 3) := by decide +kernel
theorem dX0_lostFrom_18 : decode cX0_lostFrom 18 = .ok (.iload_n 2, 1) := by decide +kernel
theorem dX0_lostFrom_19 : decode cX0_lostFrom 19 = .ok (.ireturn, 1) := by decide +kernel
theorem dX0_lostFrom_20 : decode cX0_lostFrom 20 = .ok (.iinc 2 1, 3) := by decide +kernel
theorem dX0_lostFrom_23 : decode cX0_lostFrom 23 = .ok (.goto (-21), 3) := by decide +kernel
theorem dX0_lostFrom_26 : decode cX0_lostFrom 26 = .ok (.iconst (-1), 1) := by decide +kernel
theorem dX0_lostFrom_27 : decode cX0_lostFrom 27 = .ok (.ireturn, 1) := by decide +kernel
theorem dX0_isSpan_0 : decode cX0_isSpan 0 = .ok (.iload_n 1, 1) := by decide +kernel
theorem dX0_isSpan_1 : decode cX0_isSpan 1 = .ok (.iconst 1, 1) := by decide +kernel
theorem dX0_isSpan_2 : decode cX0_isSpan 2 = .ok (.if_icmp .lt 24, 3) := by decide +kernel
theorem dX0_isSpan_5 : decode cX0_isSpan 5 = .ok (.iload_n 1, 1) := by decide +kernel
theorem dX0_isSpan_6 : decode cX0_isSpan 6 = .ok (.iload_n 2, 1) := by decide +kernel
theorem dX0_isSpan_7 : decode cX0_isSpan 7 = .ok (.if_icmp .gt 19, 3) := by decide +kernel
theorem dX0_isSpan_10 : decode cX0_isSpan 10 = .ok (.iload_n 0, 1) := by decide +kernel
theorem dX0_isSpan_11 : decode cX0_isSpan 11 = .ok (.ifCond .lt 15, 3) := by decide +kernel
theorem dX0_isSpan_14 : decode cX0_isSpan 14 = .ok (.iload_n 0, 1) := by decide +kernel
theorem dX0_isSpan_15 : decode cX0_isSpan 15 = .ok (.bipush 64, 2) := by decide +kernel
theorem dX0_isSpan_17 : decode cX0_isSpan 17 = .ok (.iload_n 1, 1) := by decide +kernel
theorem dX0_isSpan_18 : decode cX0_isSpan 18 = .ok (.isub, 1) := by decide +kernel
theorem dX0_isSpan_19 : decode cX0_isSpan 19 = .ok (.if_icmp .gt 7, 3) := by decide +kernel
theorem dX0_isSpan_22 : decode cX0_isSpan 22 = .ok (.iconst 1, 1) := by decide +kernel
theorem dX0_isSpan_23 : decode cX0_isSpan 23 = .ok (.goto 4, 3) := by decide +kernel
theorem dX0_isSpan_26 : decode cX0_isSpan 26 = .ok (.iconst 0, 1) := by decide +kernel
theorem dX0_isSpan_27 : decode cX0_isSpan 27 = .ok (.ireturn, 1) := by decide +kernel
theorem dX0_byteAt_0 : decode cX0_byteAt 0 = .ok (.aload_n 0, 1) := by decide +kernel
theorem dX0_byteAt_1 : decode cX0_byteAt 1 = .ok (.getfield 9, 3) := by decide +kernel
theorem dX0_byteAt_4 : decode cX0_byteAt 4 = .ok (.iload_n 1, 1) := by decide +kernel
theorem dX0_byteAt_5 : decode cX0_byteAt 5 = .ok (.bipush 64, 2) := by decide +kernel
theorem dX0_byteAt_7 : decode cX0_byteAt 7 = .ok (.imul, 1) := by decide +kernel
theorem dX0_byteAt_8 : decode cX0_byteAt 8 = .ok (.iload_n 2, 1) := by decide +kernel
theorem dX0_byteAt_9 : decode cX0_byteAt 9 = .ok (.iadd, 1) := by decide +kernel
theorem dX0_byteAt_10 : decode cX0_byteAt 10 = .ok (.iaload, 1) := by decide +kernel
theorem dX0_byteAt_11 : decode cX0_byteAt 11 = .ok (.ireturn, 1) := by decide +kernel
theorem dX0_change_0 : decode cX0_change 0 = .ok (.aload_n 0, 1) := by decide +kernel
theorem dX0_change_1 : decode cX0_change 1 = .ok (.getfield 9, 3) := by decide +kernel
theorem dX0_change_4 : decode cX0_change 4 = .ok (.iload_n 1, 1) := by decide +kernel
theorem dX0_change_5 : decode cX0_change 5 = .ok (.bipush 64, 2) := by decide +kernel
theorem dX0_change_7 : decode cX0_change 7 = .ok (.imul, 1) := by decide +kernel
theorem dX0_change_8 : decode cX0_change 8 = .ok (.iload_n 2, 1) := by decide +kernel
theorem dX0_change_9 : decode cX0_change 9 = .ok (.iadd, 1) := by decide +kernel
theorem dX0_change_10 : decode cX0_change 10 = .ok (.dup2, 1) := by decide +kernel
theorem dX0_change_11 : decode cX0_change 11 = .ok (.iaload, 1) := by decide +kernel
theorem dX0_change_12 : decode cX0_change 12 = .ok (.iload_n 3, 1) := by decide +kernel
theorem dX0_change_13 : decode cX0_change 13 = .ok (.ixor, 1) := by decide +kernel
theorem dX0_change_14 : decode cX0_change 14 = .ok (.iastore, 1) := by decide +kernel
theorem dX0_change_15 : decode cX0_change 15 = .ok (.return_, 1) := by decide +kernel
set_option maxRecDepth 20000 in
theorem ggX0_changeWithParities_X0_change : GoodIn wsX0_changeWithParities wsX0_change := goodIn_r _ [5, 6, 27, 28, 29] (by decide +kernel) (by decide +kernel)
set_option maxRecDepth 20000 in
theorem gX0_changeWithParities_X0_change : GoodIn wsX0_changeWithParities (wsV RX0 47 RX0 yX0_change wsX0_change) := goodIn_app (goodIn_of _ (by decide +kernel)) ggX0_changeWithParities_X0_change
set_option maxRecDepth 20000 in
theorem ggX0_changeWithParities_X0_unitP : GoodIn wsX0_changeWithParities wsX0_unitP := goodIn_r _ [10, 11, 27, 28, 29] (by decide +kernel) (by decide +kernel)
set_option maxRecDepth 20000 in
theorem gX0_changeWithParities_X0_unitP : GoodIn wsX0_changeWithParities (wsV RX0 50 RX0 yX0_unitP wsX0_unitP) := goodIn_app (goodIn_of _ (by decide +kernel)) ggX0_changeWithParities_X0_unitP
set_option maxRecDepth 20000 in
theorem ggX0_changeWithParities_X0_isLost : GoodIn wsX0_changeWithParities wsX0_isLost := goodIn_r _ [15, 16, 27, 28, 29] (by decide +kernel) (by decide +kernel)
set_option maxRecDepth 20000 in
theorem gX0_changeWithParities_X0_isLost : GoodIn wsX0_changeWithParities (wsV RX0 100 RX0 yX0_isLost wsX0_isLost) := goodIn_app (goodIn_of _ (by decide +kernel)) ggX0_changeWithParities_X0_isLost
set_option maxRecDepth 20000 in
theorem ggX0_changeWithParities_X0_unitQ : GoodIn wsX0_changeWithParities wsX0_unitQ := goodIn_r _ [20, 11, 27, 28, 29] (by decide +kernel) (by decide +kernel)
set_option maxRecDepth 20000 in
theorem gX0_changeWithParities_X0_unitQ : GoodIn wsX0_changeWithParities (wsV RX0 57 RX0 yX0_unitQ wsX0_unitQ) := goodIn_app (goodIn_of _ (by decide +kernel)) ggX0_changeWithParities_X0_unitQ
set_option maxRecDepth 20000 in
theorem ggX0_changeWithParities_X0_timesPower : GoodIn wsX0_changeWithParities wsX0_timesPower := goodIn_r _ [23, 24, 25, 4, 26] (by decide +kernel) (by decide +kernel)
set_option maxRecDepth 20000 in
theorem gX0_changeWithParities_X0_timesPower : GoodIn wsX0_changeWithParities (va_wsS RX0 97 yX0_timesPower wsX0_timesPower) := goodIn_app (goodIn_of _ (by decide +kernel)) ggX0_changeWithParities_X0_timesPower
theorem dX0_changeWithParities_0 : decode cX0_changeWithParities 0 = .ok (.aload_n 0, 1) := by decide +kernel
theorem dX0_changeWithParities_1 : decode cX0_changeWithParities 1 = .ok (.iload_n 1, 1) := by decide +kernel
theorem dX0_changeWithParities_2 : decode cX0_changeWithParities 2 = .ok (.iload_n 2, 1) := by decide +kernel
theorem dX0_changeWithParities_3 : decode cX0_changeWithParities 3 = .ok (.iload_n 3, 1) := by decide +kernel
theorem dX0_changeWithParities_4 : decode cX0_changeWithParities 4 = .ok (.invokevirtual 47, 3) := by decide +kernel
