theorem dX1_part_25 : decode cX1_part 25 = .ok (.iinc 3 1, 3) := by decide +kernel
theorem dX1_part_28 : decode cX1_part 28 = .ok (.goto (-26), 3) := by decide +kernel
theorem dX1_part_31 : decode cX1_part 31 = .ok (.iconst (-1), 1) := by decide +kernel
theorem dX1_part_32 : decode cX1_part 32 = .ok (.ireturn, 1) := by decide +kernel
set_option maxRecDepth 20000 in
theorem ggX1_product_X1_part : GoodIn wsX1_product wsX1_part := goodIn_r _ [6, 7, 8, 9, 5, 10] (by decide +kernel) (by decide +kernel)
set_option maxRecDepth 20000 in
theorem gX1_product_X1_part : GoodIn wsX1_product (wsV RX1 32 RX1 yX1_part wsX1_part) := goodIn_app (goodIn_of _ (by decide +kernel)) ggX1_product_X1_part
set_option maxRecDepth 20000 in
theorem ggX1_product_X1_times : GoodIn wsX1_product wsX1_times := goodIn_r _ [10] (by decide +kernel) (by decide +kernel)
set_option maxRecDepth 20000 in
theorem gX1_product_X1_times : GoodIn wsX1_product (wsV RX1 28 RX1 yX1_times wsX1_times) := goodIn_app (goodIn_of _ (by decide +kernel)) ggX1_product_X1_times
theorem dX1_product_0 : decode cX1_product 0 = .ok (.aload_n 0, 1) := by decide +kernel
theorem dX1_product_1 : decode cX1_product 1 = .ok (.iconst 0, 1) := by decide +kernel
theorem dX1_product_2 : decode cX1_product 2 = .ok (.putfield 21, 3) := by decide +kernel
theorem dX1_product_5 : decode cX1_product 5 = .ok (.iload_n 1, 1) := by decide +kernel
theorem dX1_product_6 : decode cX1_product 6 = .ok (.ifCond .lt 29, 3) := by decide +kernel
theorem dX1_product_9 : decode cX1_product 9 = .ok (.iload_n 1, 1) := by decide +kernel
theorem dX1_product_10 : decode cX1_product 10 = .ok (.sipush 255, 3) := by decide +kernel
theorem dX1_product_13 : decode cX1_product 13 = .ok (.if_icmp .gt 22, 3) := by decide +kernel
theorem dX1_product_16 : decode cX1_product 16 = .ok (.iload_n 2, 1) := by decide +kernel
theorem dX1_product_17 : decode cX1_product 17 = .ok (.ifCond .lt 18, 3) := by decide +kernel
theorem dX1_product_20 : decode cX1_product 20 = .ok (.iload_n 2, 1) := by decide +kernel
theorem dX1_product_21 : decode cX1_product 21 = .ok (.sipush 255, 3) := by decide +kernel
theorem dX1_product_24 : decode cX1_product 24 = .ok (.if_icmp .gt 11, 3) := by decide +kernel
theorem dX1_product_27 : decode cX1_product 27 = .ok (.iload_n 3, 1) := by decide +kernel
theorem dX1_product_28 : decode cX1_product 28 = .ok (.ifCond .eq 9, 3) := by decide +kernel
theorem dX1_product_31 : decode cX1_product 31 = .ok (.iload_n 2, 1) := by decide +kernel
theorem dX1_product_32 : decode cX1_product 32 = .ok (.ifCond .ne 5, 3) := by decide +kernel
theorem dX1_product_35 : decode cX1_product 35 = .ok (.iconst (-1), 1) := by decide +kernel
theorem dX1_product_36 : decode cX1_product 36 = .ok (.ireturn, 1) := by decide +kernel
theorem dX1_product_37 : decode cX1_product 37 = .ok (.iload_n 3, 1) := by decide +kernel
theorem dX1_product_38 : decode cX1_product 38 = .ok (.ifCond .eq 12, 3) := by decide +kernel
theorem dX1_product_41 : decode cX1_product 41 = .ok (.aload_n 0, 1) := by decide +kernel
theorem dX1_product_42 : decode cX1_product 42 = .ok (.iload_n 1, 1) := by decide +kernel
theorem dX1_product_43 : decode cX1_product 43 = .ok (.iload_n 2, 1) := by decide +kernel
theorem dX1_product_44 : decode cX1_product 44 = .ok (.invokevirtual 32, 3) := by decide +kernel
theorem dX1_product_47 : decode cX1_product 47 = .ok (.goto 9, 3) := by decide +kernel
theorem dX1_product_50 : decode cX1_product 50 = .ok (.aload_n 0, 1) := by decide +kernel
theorem dX1_product_51 : decode cX1_product 51 = .ok (.iload_n 1, 1) := by decide +kernel
theorem dX1_product_52 : decode cX1_product 52 = .ok (.iload_n 2, 1) := by decide +kernel
theorem dX1_product_53 : decode cX1_product 53 = .ok (.invokevirtual 28, 3) := by decide +kernel
theorem dX1_product_56 : decode cX1_product 56 = .ok (.ireturn, 1) := by decide +kernel
set_option maxRecDepth 20000 in
theorem ggX1_power_X1_twos : GoodIn wsX1_power wsX1_twos := goodIn_r _ [6, 7, 8, 9, 5, 10] (by decide +kernel) (by decide +kernel)
set_option maxRecDepth 20000 in
theorem gX1_power_X1_twos : GoodIn wsX1_power (wsV RX1 35 RX1 yX1_twos wsX1_twos) := goodIn_app (goodIn_of _ (by decide +kernel)) ggX1_power_X1_twos
theorem dX1_power_0 : decode cX1_power 0 = .ok (.aload_n 0, 1) := by decide +kernel
theorem dX1_power_1 : decode cX1_power 1 = .ok (.iconst 0, 1) := by decide +kernel
theorem dX1_power_2 : decode cX1_power 2 = .ok (.putfield 21, 3) := by decide +kernel
theorem dX1_power_5 : decode cX1_power 5 = .ok (.iload_n 1, 1) := by decide +kernel
theorem dX1_power_6 : decode cX1_power 6 = .ok (.sipush 255, 3) := by decide +kernel
theorem dX1_power_9 : decode cX1_power 9 = .ok (.irem, 1) := by decide +kernel
theorem dX1_power_10 : decode cX1_power 10 = .ok (.istore_n 2, 1) := by decide +kernel
theorem dX1_power_11 : decode cX1_power 11 = .ok (.aload_n 0, 1) := by decide +kernel
theorem dX1_power_12 : decode cX1_power 12 = .ok (.iload_n 2, 1) := by decide +kernel
theorem dX1_power_13 : decode cX1_power 13 = .ok (.ifCond .ge 11, 3) := by decide +kernel
theorem dX1_power_16 : decode cX1_power 16 = .ok (.iload_n 2, 1) := by decide +kernel
theorem dX1_power_17 : decode cX1_power 17 = .ok (.sipush 255, 3) := by decide +kernel
theorem dX1_power_20 : decode cX1_power 20 = .ok (.iadd, 1) := by decide +kernel
theorem dX1_power_21 : decode cX1_power 21 = .ok (.goto 4, 3) := by decide +kernel
theorem dX1_power_24 : decode cX1_power 24 = .ok (.iload_n 2, 1) := by decide +kernel
theorem dX1_power_25 : decode cX1_power 25 = .ok (.invokevirtual 35, 3) := by decide +kernel
theorem dX1_power_28 : decode cX1_power 28 = .ok (.ireturn, 1) := by decide +kernel
theorem dX1_p_0 : decode cX1_p 0 = .ok (.aload_n 0, 1) := by decide +kernel
theorem dX1_p_1 : decode cX1_p 1 = .ok (.getfield 25, 3) := by decide +kernel
theorem dX1_p_4 : decode cX1_p 4 = .ok (.iconst 2, 1) := by decide +kernel
theorem dX1_p_5 : decode cX1_p 5 = .ok (.isub, 1) := by decide +kernel
theorem dX1_p_6 : decode cX1_p 6 = .ok (.ireturn, 1) := by decide +kernel
theorem dX1_q_0 : decode cX1_q 0 = .ok (.aload_n 0, 1) := by decide +kernel
theorem dX1_q_1 : decode cX1_q 1 = .ok (.getfield 25, 3) := by decide +kernel
theorem dX1_q_4 : decode cX1_q 4 = .ok (.iconst 1, 1) := by decide +kernel
theorem dX1_q_5 : decode cX1_q 5 = .ok (.isub, 1) := by decide +kernel
theorem dX1_q_6 : decode cX1_q 6 = .ok (.ireturn, 1) := by decide +kernel
theorem dX1_noUnit_0 : decode cX1_noUnit 0 = .ok (.iload_n 1, 1) := by decide +kernel
theorem dX1_noUnit_1 : decode cX1_noUnit 1 = .ok (.ifCond .lt 11, 3) := by decide +kernel
theorem dX1_noUnit_4 : decode cX1_noUnit 4 = .ok (.iload_n 1, 1) := by decide +kernel
theorem dX1_noUnit_5 : decode cX1_noUnit 5 = .ok (.aload_n 0, 1) := by decide +kernel
theorem dX1_noUnit_6 : decode cX1_noUnit 6 = .ok (.getfield 25, 3) := by decide +kernel
theorem dX1_noUnit_9 : decode cX1_noUnit 9 = .ok (.if_icmp .lt 7, 3) := by decide +kernel
theorem dX1_noUnit_12 : decode cX1_noUnit 12 = .ok (.iconst 1, 1) := by decide +kernel
theorem dX1_noUnit_13 : decode cX1_noUnit 13 = .ok (.goto 4, 3) := by decide +kernel
theorem dX1_noUnit_16 : decode cX1_noUnit 16 = .ok (.iconst 0, 1) := by decide +kernel
theorem dX1_noUnit_17 : decode cX1_noUnit 17 = .ok (.ireturn, 1) := by decide +kernel
theorem dX1_manyLost_0 : decode cX1_manyLost 0 = .ok (.iconst 0, 1) := by decide +kernel
theorem dX1_manyLost_1 : decode cX1_manyLost 1 = .ok (.istore_n 1, 1) := by decide +kernel
theorem dX1_manyLost_2 : decode cX1_manyLost 2 = .ok (.iconst 0, 1) := by decide +kernel
theorem dX1_manyLost_3 : decode cX1_manyLost 3 = .ok (.istore_n 2, 1) := by decide +kernel
theorem dX1_manyLost_4 : decode cX1_manyLost 4 = .ok (.iload_n 2, 1) := by decide +kernel
theorem dX1_manyLost_5 : decode cX1_manyLost 5 = .ok (.aload_n 0, 1) := by decide +kernel
theorem dX1_manyLost_6 : decode cX1_manyLost 6 = .ok (.getfield 25, 3) := by decide +kernel
theorem dX1_manyLost_9 : decode cX1_manyLost 9 = .ok (.if_icmp .ge 26, 3) := by decide +kernel
theorem dX1_manyLost_12 : decode cX1_manyLost 12 = .ok (.iload_n 1, 1) := by decide +kernel
theorem dX1_manyLost_13 : decode cX1_manyLost 13 = .ok (.aload_n 0, 1) := by decide +kernel
theorem dX1_manyLost_14 : decode cX1_manyLost 14 = .ok (.getfield 13, 3) := by decide +kernel
theorem dX1_manyLost_17 : decode cX1_manyLost 17 = .ok (.iload_n 2, 1) := by decide +kernel
theorem dX1_manyLost_18 : decode cX1_manyLost 18 = .ok (.baload, 1) := by decide +kernel
theorem dX1_manyLost_19 : decode cX1_manyLost 19 = .ok (.ifCond .eq 7, 3) := by decide +kernel
theorem dX1_manyLost_22 : decode cX1_manyLost 22 = .ok (.iconst 1, 1) := by decide +kernel
theorem dX1_manyLost_23 : decode cX1_manyLost 23 = .ok (.goto 4, 3) := by decide +kernel
theorem dX1_manyLost_26 : decode cX1_manyLost 26 = .ok (.iconst 0, 1) := by decide +kernel
theorem dX1_manyLost_27 : decode cX1_manyLost 27 = .ok (.iadd, 1) := by decide +kernel
theorem dX1_manyLost_28 : decode cX1_manyLost 28 = .ok (.istore_n 1, 1) := by decide +kernel
theorem dX1_manyLost_29 : decode cX1_manyLost 29 = .ok (.iinc 2 1, 3) := by decide +kernel
theorem dX1_manyLost_32 : decode cX1_manyLost 32 = .ok (.goto (-28), 3) := by decide +kernel
theorem dX1_manyLost_35 : decode cX1_manyLost 35 = .ok (.iload_n 1, 1) := by decide +kernel
theorem dX1_manyLost_36 : decode cX1_manyLost 36 = .ok (.ireturn, 1) := by decide +kernel
set_option maxRecDepth 20000 in
theorem ggX1_put_X1_p : GoodIn wsX1_put wsX1_p := goodIn_r _ [9, 10, 23, 24, 25, 26] (by decide +kernel) (by decide +kernel)
set_option maxRecDepth 20000 in
theorem gX1_put_X1_p : GoodIn wsX1_put (wsV RX1 38 RX1 yX1_p wsX1_p) := goodIn_app (goodIn_of _ (by decide +kernel)) ggX1_put_X1_p
set_option maxRecDepth 20000 in
theorem ggX1_put_X1_q : GoodIn wsX1_put wsX1_q := goodIn_r _ [14, 10, 23, 24, 25, 26] (by decide +kernel) (by decide +kernel)
set_option maxRecDepth 20000 in
theorem gX1_put_X1_q : GoodIn wsX1_put (wsV RX1 44 RX1 yX1_q wsX1_q) := goodIn_app (goodIn_of _ (by decide +kernel)) ggX1_put_X1_q
set_option maxRecDepth 20000 in
theorem ggX1_put_X1_twos : GoodIn wsX1_put wsX1_twos := goodIn_r _ [18, 19, 20, 21, 8, 22] (by decide +kernel) (by decide +kernel)
set_option maxRecDepth 20000 in
theorem gX1_put_X1_twos : GoodIn wsX1_put (wsV RX1 35 RX1 yX1_twos wsX1_twos) := goodIn_app (goodIn_of _ (by decide +kernel)) ggX1_put_X1_twos
set_option maxRecDepth 20000 in
theorem ggX1_put_X1_times : GoodIn wsX1_put wsX1_times := goodIn_r _ [22] (by decide +kernel) (by decide +kernel)
set_option maxRecDepth 20000 in
theorem gX1_put_X1_times : GoodIn wsX1_put (wsV RX1 28 RX1 yX1_times wsX1_times) := goodIn_app (goodIn_of _ (by decide +kernel)) ggX1_put_X1_times
theorem dX1_put_0 : decode cX1_put 0 = .ok (.aload_n 0, 1) := by decide +kernel
theorem dX1_put_1 : decode cX1_put 1 = .ok (.iconst 0, 1) := by decide +kernel
theorem dX1_put_2 : decode cX1_put 2 = .ok (.putfield 21, 3) := by decide +kernel
theorem dX1_put_5 : decode cX1_put 5 = .ok (.iload_n 1, 1) := by decide +kernel
theorem dX1_put_6 : decode cX1_put 6 = .ok (.ifCond .lt 43, 3) := by decide +kernel
theorem dX1_put_9 : decode cX1_put 9 = .ok (.iload_n 1, 1) := by decide +kernel
theorem dX1_put_10 : decode cX1_put 10 = .ok (.aload_n 0, 1) := by decide +kernel
theorem dX1_put_11 : decode cX1_put 11 = .ok (.invokevirtual 38, 3) := by decide +kernel
theorem dX1_put_14 : decode cX1_put 14 = .ok (.if_icmp .ge 35, 3) := by decide +kernel
theorem dX1_put_17 : decode cX1_put 17 = .ok (.aload_n 0, 1) := by decide +kernel
theorem dX1_put_18 : decode cX1_put 18 = .ok (.getfield 13, 3) := by decide +kernel
theorem dX1_put_21 : decode cX1_put 21 = .ok (.iload_n 1, 1) := by decide +kernel
theorem dX1_put_22 : decode cX1_put 22 = .ok (.baload, 1) := by decide +kernel
theorem dX1_put_23 : decode cX1_put 23 = .ok (.ifCond .ne 26, 3) := by decide +kernel
theorem dX1_put_26 : decode cX1_put 26 = .ok (.iload_n 3, 1) := by decide +kernel
theorem dX1_put_27 : decode cX1_put 27 = .ok (.iconst 1, 1) := by decide +kernel
theorem dX1_put_28 : decode cX1_put 28 = .ok (.if_icmp .lt 21, 3) := by decide +kernel
theorem dX1_put_31 : decode cX1_put 31 = .ok (.iload_n 3, 1) := by decide +kernel
theorem dX1_put_32 : decode cX1_put 32 = .ok (.bipush 8, 2) := by decide +kernel
theorem dX1_put_34 : decode cX1_put 34 = .ok (.if_icmp .gt 15, 3) := by decide +kernel
theorem dX1_put_37 : decode cX1_put 37 = .ok (.iload_n 2, 1) := by decide +kernel
theorem dX1_put_38 : decode cX1_put 38 = .ok (.ifCond .lt 11, 3) := by decide +kernel
theorem dX1_put_41 : decode cX1_put 41 = .ok (.iload_n 2, 1) := by decide +kernel
theorem dX1_put_42 : decode cX1_put 42 = .ok (.bipush 64, 2) := by decide +kernel
theorem dX1_put_44 : decode cX1_put 44 = .ok (.iload_n 3, 1) := by decide +kernel
theorem dX1_put_45 : decode cX1_put 45 = .ok (.isub, 1) := by decide +kernel
theorem dX1_put_46 : decode cX1_put 46 = .ok (.if_icmp .le 5, 3) := by decide +kernel
theorem dX1_put_49 : decode cX1_put 49 = .ok (.iconst (-1), 1) := by decide +kernel
theorem dX1_put_50 : decode cX1_put 50 = .ok (.ireturn, 1) := by decide +kernel
theorem dX1_put_51 : decode cX1_put 51 = .ok (.iconst 0, 1) := by decide +kernel
theorem dX1_put_52 : decode cX1_put 52 = .ok (.istore 6, 2) := by decide +kernel
theorem dX1_put_54 : decode cX1_put 54 = .ok (.iload 6, 2) := by decide +kernel
theorem dX1_put_56 : decode cX1_put 56 = .ok (.iload_n 3, 1) := by decide +kernel
theorem dX1_put_57 : decode cX1_put 57 = .ok (.if_icmp .ge 110, 3) := by decide +kernel
theorem dX1_put_60 : decode cX1_put 60 = .ok (.iload_n 2, 1) := by decide +kernel
theorem dX1_put_61 : decode cX1_put 61 = .ok (.iload 6, 2) := by decide +kernel
theorem dX1_put_63 : decode cX1_put 63 = .ok (.iadd, 1) := by decide +kernel
theorem dX1_put_64 : decode cX1_put 64 = .ok (.istore 7, 2) := by decide +kernel
theorem dX1_put_66 : decode cX1_put 66 = .ok (.lload 4, 2) := by decide +kernel
theorem dX1_put_68 : decode cX1_put 68 = .ok (.bipush 8, 2) := by decide +kernel
theorem dX1_put_70 : decode cX1_put 70 = .ok (.iload 6, 2) := by decide +kernel
theorem dX1_put_72 : decode cX1_put 72 = .ok (.imul, 1) := by decide +kernel
theorem dX1_put_73 : decode cX1_put 73 = .ok (.lshr, 1) := by decide +kernel
theorem dX1_put_74 : decode cX1_put 74 = .ok (.ldc2_w 42, 3) := by decide +kernel
theorem dX1_put_77 : decode cX1_put 77 = .ok (.land, 1) := by decide +kernel
theorem dX1_put_78 : decode cX1_put 78 = .ok (.l2i, 1) := by decide +kernel
theorem dX1_put_79 : decode cX1_put 79 = .ok (.istore 8, 2) := by decide +kernel
theorem dX1_put_81 : decode cX1_put 81 = .ok (.aload_n 0, 1) := by decide +kernel
theorem dX1_put_82 : decode cX1_put 82 = .ok (.getfield 7, 3) := by decide +kernel
theorem dX1_put_85 : decode cX1_put 85 = .ok (.bipush 64, 2) := by decide +kernel
theorem dX1_put_87 : decode cX1_put 87 = .ok (.iload_n 1, 1) := by decide +kernel
theorem dX1_put_88 : decode cX1_put 88 = .ok (.imul, 1) := by decide +kernel
theorem dX1_put_89 : decode cX1_put 89 = .ok (.iload 7, 2) := by decide +kernel
theorem dX1_put_91 : decode cX1_put 91 = .ok (.iadd, 1) := by decide +kernel
theorem dX1_put_92 : decode cX1_put 92 = .ok (.iaload, 1) := by decide +kernel
theorem dX1_put_93 : decode cX1_put 93 = .ok (.iload 8, 2) := by decide +kernel
theorem dX1_put_95 : decode cX1_put 95 = .ok (.ixor, 1) := by decide +kernel
theorem dX1_put_96 : decode cX1_put 96 = .ok (.istore 9, 2) := by decide +kernel
theorem dX1_put_98 : decode cX1_put 98 = .ok (.aload_n 0, 1) := by decide +kernel
theorem dX1_put_99 : decode cX1_put 99 = .ok (.getfield 7, 3) := by decide +kernel
theorem dX1_put_102 : decode cX1_put 102 = .ok (.bipush 64, 2) := by decide +kernel
theorem dX1_put_104 : decode cX1_put 104 = .ok (.iload_n 1, 1) := by decide +kernel
theorem dX1_put_105 : decode cX1_put 105 = .ok (.imul, 1) := by decide +kernel
theorem dX1_put_106 : decode cX1_put 106 = .ok (.iload 7, 2) := by decide +kernel
theorem dX1_put_108 : decode cX1_put 108 = .ok (.iadd, 1) := by decide +kernel
theorem dX1_put_109 : decode cX1_put 109 = .ok (.iload 8, 2) := by decide +kernel
theorem dX1_put_111 : decode cX1_put 111 = .ok (.iastore, 1) := by decide +kernel
theorem dX1_put_112 : decode cX1_put 112 = .ok (.aload_n 0, 1) := by decide +kernel
theorem dX1_put_113 : decode cX1_put 113 = .ok (.getfield 7, 3) := by decide +kernel
theorem dX1_put_116 : decode cX1_put 116 = .ok (.bipush 64, 2) := by decide +kernel
theorem dX1_put_118 : decode cX1_put 118 = .ok (.aload_n 0, 1) := by decide +kernel
theorem dX1_put_119 : decode cX1_put 119 = .ok (.invokevirtual 38, 3) := by decide +kernel
theorem dX1_put_122 : decode cX1_put 122 = .ok (.imul, 1) := by decide +kernel
theorem dX1_put_123 : decode cX1_put 123 = .ok (.iload 7, 2) := by decide +kernel
theorem dX1_put_125 : decode cX1_put 125 = .ok (.iadd, 1) := by decide +kernel
theorem dX1_put_126 : decode cX1_put 126 = .ok (.dup2, 1) := by decide +kernel
theorem dX1_put_127 : decode cX1_put 127 = .ok (.iaload, 1) := by decide +kernel
theorem dX1_put_128 : decode cX1_put 128 = .ok (.iload 9, 2) := by decide +kernel
theorem dX1_put_130 : decode cX1_put 130 = .ok (.ixor, 1) := by decide +kernel
theorem dX1_put_131 : decode cX1_put 131 = .ok (.iastore, 1) := by decide +kernel
theorem dX1_put_132 : decode cX1_put 132 = .ok (.aload_n 0, 1) := by decide +kernel
theorem dX1_put_133 : decode cX1_put 133 = .ok (.getfield 7, 3) := by decide +kernel
theorem dX1_put_136 : decode cX1_put 136 = .ok (.bipush 64, 2) := by decide +kernel
theorem dX1_put_138 : decode cX1_put 138 = .ok (.aload_n 0, 1) := by decide +kernel
theorem dX1_put_139 : decode cX1_put 139 = .ok (.invokevirtual 44, 3) := by decide +kernel
theorem dX1_put_142 : decode cX1_put 142 = .ok (.imul, 1) := by decide +kernel
theorem dX1_put_143 : decode cX1_put 143 = .ok (.iload 7, 2) := by decide +kernel
theorem dX1_put_145 : decode cX1_put 145 = .ok (.iadd, 1) := by decide +kernel
theorem dX1_put_146 : decode cX1_put 146 = .ok (.dup2, 1) := by decide +kernel
theorem dX1_put_147 : decode cX1_put 147 = .ok (.iaload, 1) := by decide +kernel
theorem dX1_put_148 : decode cX1_put 148 = .ok (.aload_n 0, 1) := by decide +kernel
theorem dX1_put_149 : decode cX1_put 149 = .ok (.iload 9, 2) := by decide +kernel
theorem dX1_put_151 : decode cX1_put 151 = .ok (.aload_n 0, 1) := by decide +kernel
theorem dX1_put_152 : decode cX1_put 152 = .ok (.iload_n 1, 1) := by decide +kernel
theorem dX1_put_153 : decode cX1_put 153 = .ok (.invokevirtual 35, 3) := by decide +kernel
theorem dX1_put_156 : decode cX1_put 156 = .ok (.invokevirtual 28, 3) := by decide +kernel
theorem dX1_put_159 : decode cX1_put 159 = .ok (.ixor, 1) := by decide +kernel
theorem dX1_put_160 : decode cX1_put 160 = .ok (.iastore, 1) := by decide +kernel
theorem dX1_put_161 : decode cX1_put 161 = .ok (.iinc 6 1, 3) := by decide +kernel
theorem dX1_put_164 : decode cX1_put 164 = .ok (.goto (-110), 3) := by decide +kernel
theorem dX1_put_167 : decode cX1_put 167 = .ok (.iload_n 3, 1) := by decide +kernel
theorem dX1_put_168 : decode cX1_put 168 = .ok (.ireturn, 1) := by decide +kernel
set_option maxRecDepth 20000 in
theorem ggX1_spoil_X1_noUnit : GoodIn wsX1_spoil wsX1_noUnit := goodIn_r _ [9, 10, 11, 12, 13, 14] (by decide +kernel) (by decide +kernel)
set_option maxRecDepth 20000 in
theorem gX1_spoil_X1_noUnit : GoodIn wsX1_spoil (wsV RX1 47 RX1 yX1_noUnit wsX1_noUnit) := goodIn_app (goodIn_of _ (by decide +kernel)) ggX1_spoil_X1_noUnit
theorem dX1_spoil_0 : decode cX1_spoil 0 = .ok (.aload_n 0, 1) := by decide +kernel
theorem dX1_spoil_1 : decode cX1_spoil 1 = .ok (.iconst 0, 1) := by decide +kernel
theorem dX1_spoil_2 : decode cX1_spoil 2 = .ok (.putfield 21, 3) := by decide +kernel
theorem dX1_spoil_5 : decode cX1_spoil 5 = .ok (.aload_n 0, 1) := by decide +kernel
theorem dX1_spoil_6 : decode cX1_spoil 6 = .ok (.iload_n 1, 1) := by decide +kernel
theorem dX1_spoil_7 : decode cX1_spoil 7 = .ok (.invokevirtual 47, 3) := by decide +kernel
theorem dX1_spoil_10 : decode cX1_spoil 10 = .ok (.ifCond .ne 35, 3) := by decide +kernel
theorem dX1_spoil_13 : decode cX1_spoil 13 = .ok (.aload_n 0, 1) := by decide +kernel
theorem dX1_spoil_14 : decode cX1_spoil 14 = .ok (.getfield 13, 3) := by decide +kernel
theorem dX1_spoil_17 : decode cX1_spoil 17 = .ok (.iload_n 1, 1) := by decide +kernel
theorem dX1_spoil_18 : decode cX1_spoil 18 = .ok (.baload, 1) := by decide +kernel
theorem dX1_spoil_19 : decode cX1_spoil 19 = .ok (.ifCond .ne 26, 3) := by decide +kernel
theorem dX1_spoil_22 : decode cX1_spoil 22 = .ok (.iload_n 3, 1) := by decide +kernel
theorem dX1_spoil_23 : decode cX1_spoil 23 = .ok (.iconst 1, 1) := by decide +kernel
theorem dX1_spoil_24 : decode cX1_spoil 24 = .ok (.if_icmp .lt 21, 3) := by decide +kernel
theorem dX1_spoil_27 : decode cX1_spoil 27 = .ok (.iload_n 3, 1) := by decide +kernel
theorem dX1_spoil_28 : decode cX1_spoil 28 = .ok (.bipush 64, 2) := by decide +kernel
theorem dX1_spoil_30 : decode cX1_spoil 30 = .ok (.if_icmp .gt 15, 3) := by decide +kernel
theorem dX1_spoil_33 : decode cX1_spoil 33 = .ok (.iload_n 2, 1) := by decide +kernel
theorem dX1_spoil_34 : decode cX1_spoil 34 = .ok (.ifCond .lt 11, 3) := by decide +kernel
theorem dX1_spoil_37 : decode cX1_spoil 37 = .ok (.iload_n 2, 1) := by decide +kernel
theorem dX1_spoil_38 : decode cX1_spoil 38 = .ok (.bipush 64, 2) := by decide +kernel
theorem dX1_spoil_40 : decode cX1_spoil 40 = .ok (.iload_n 3, 1) := by decide +kernel
theorem dX1_spoil_41 : decode cX1_spoil 41 = .ok (.isub, 1) := by decide +kernel
theorem dX1_spoil_42 : decode cX1_spoil 42 = .ok (.if_icmp .le 5, 3) := by decide +kernel
theorem dX1_spoil_45 : decode cX1_spoil 45 = .ok (.iconst (-1), 1) := by decide +kernel
theorem dX1_spoil_46 : decode cX1_spoil 46 = .ok (.ireturn, 1) := by decide +kernel
theorem dX1_spoil_47 : decode cX1_spoil 47 = .ok (.iload 4, 2) := by decide +kernel
theorem dX1_spoil_49 : decode cX1_spoil 49 = .ok (.istore 5, 2) := by decide +kernel
theorem dX1_spoil_51 : decode cX1_spoil 51 = .ok (.iconst 0, 1) := by decide +kernel
theorem dX1_spoil_52 : decode cX1_spoil 52 = .ok (.istore 6, 2) := by decide +kernel
theorem dX1_spoil_54 : decode cX1_spoil 54 = .ok (.iload 6, 2) := by decide +kernel
theorem dX1_spoil_56 : decode cX1_spoil 56 = .ok (.iload_n 3, 1) := by decide +kernel
theorem dX1_spoil_57 : decode cX1_spoil 57 = .ok (.if_icmp .ge 43, 3) := by decide +kernel
theorem dX1_spoil_60 : decode cX1_spoil 60 = .ok (.ldc 51, 2) := by decide +kernel
theorem dX1_spoil_62 : decode cX1_spoil 62 = .ok (.iload 5, 2) := by decide +kernel
theorem dX1_spoil_64 : decode cX1_spoil 64 = .ok (.imul, 1) := by decide +kernel
theorem dX1_spoil_65 : decode cX1_spoil 65 = .ok (.sipush 12345, 3) := by decide +kernel
theorem dX1_spoil_68 : decode cX1_spoil 68 = .ok (.iadd, 1) := by decide +kernel
theorem dX1_spoil_69 : decode cX1_spoil 69 = .ok (.istore 5, 2) := by decide +kernel
theorem dX1_spoil_71 : decode cX1_spoil 71 = .ok (.aload_n 0, 1) := by decide +kernel
theorem dX1_spoil_72 : decode cX1_spoil 72 = .ok (.getfield 7, 3) := by decide +kernel
theorem dX1_spoil_75 : decode cX1_spoil 75 = .ok (.bipush 64, 2) := by decide +kernel
theorem dX1_spoil_77 : decode cX1_spoil 77 = .ok (.iload_n 1, 1) := by decide +kernel
theorem dX1_spoil_78 : decode cX1_spoil 78 = .ok (.imul, 1) := by decide +kernel
theorem dX1_spoil_79 : decode cX1_spoil 79 = .ok (.iload_n 2, 1) := by decide +kernel
theorem dX1_spoil_80 : decode cX1_spoil 80 = .ok (.iadd, 1) := by decide +kernel
theorem dX1_spoil_81 : decode cX1_spoil 81 = .ok (.iload 6, 2) := by decide +kernel
theorem dX1_spoil_83 : decode cX1_spoil 83 = .ok (.iadd, 1) := by decide +kernel
theorem dX1_spoil_84 : decode cX1_spoil 84 = .ok (.iload 5, 2) := by decide +kernel
theorem dX1_spoil_86 : decode cX1_spoil 86 = .ok (.bipush 16, 2) := by decide +kernel
theorem dX1_spoil_88 : decode cX1_spoil 88 = .ok (.ishr, 1) := by decide +kernel
theorem dX1_spoil_89 : decode cX1_spoil 89 = .ok (.sipush 255, 3) := by decide +kernel
theorem dX1_spoil_92 : decode cX1_spoil 92 = .ok (.iand, 1) := by decide +kernel
theorem dX1_spoil_93 : decode cX1_spoil 93 = .ok (.iastore, 1) := by decide +kernel
theorem dX1_spoil_94 : decode cX1_spoil 94 = .ok (.iinc 6 1, 3) := by decide +kernel
theorem dX1_spoil_97 : decode cX1_spoil 97 = .ok (.goto (-43), 3) := by decide +kernel
theorem dX1_spoil_100 : decode cX1_spoil 100 = .ok (.iload_n 3, 1) := by decide +kernel
theorem dX1_spoil_101 : decode cX1_spoil 101 = .ok (.ireturn, 1) := by decide +kernel
set_option maxRecDepth 20000 in
theorem ggX1_sumAt_X1_p : GoodIn wsX1_sumAt wsX1_p := goodIn_r _ [7, 8, 17, 18, 19, 20] (by decide +kernel) (by decide +kernel)
set_option maxRecDepth 20000 in
theorem gX1_sumAt_X1_p : GoodIn wsX1_sumAt (wsV RX1 38 RX1 yX1_p wsX1_p) := goodIn_app (goodIn_of _ (by decide +kernel)) ggX1_sumAt_X1_p
set_option maxRecDepth 20000 in
theorem ggX1_sumAt_X1_twos : GoodIn wsX1_sumAt wsX1_twos := goodIn_r _ [12, 13, 14, 15, 6, 16] (by decide +kernel) (by decide +kernel)
set_option maxRecDepth 20000 in
theorem gX1_sumAt_X1_twos : GoodIn wsX1_sumAt (wsV RX1 35 RX1 yX1_twos wsX1_twos) := goodIn_app (goodIn_of _ (by decide +kernel)) ggX1_sumAt_X1_twos
set_option maxRecDepth 20000 in
theorem ggX1_sumAt_X1_times : GoodIn wsX1_sumAt wsX1_times := goodIn_r _ [16] (by decide +kernel) (by decide +kernel)
set_option maxRecDepth 20000 in
theorem gX1_sumAt_X1_times : GoodIn wsX1_sumAt (wsV RX1 28 RX1 yX1_times wsX1_times) := goodIn_app (goodIn_of _ (by decide +kernel)) ggX1_sumAt_X1_times
theorem dX1_sumAt_0 : decode cX1_sumAt 0 = .ok (.iconst 0, 1) := by decide +kernel
theorem dX1_sumAt_1 : decode cX1_sumAt 1 = .ok (.istore_n 3, 1) := by decide +kernel
theorem dX1_sumAt_2 : decode cX1_sumAt 2 = .ok (.iconst 0, 1) := by decide +kernel
theorem dX1_sumAt_3 : decode cX1_sumAt 3 = .ok (.istore 4, 2) := by decide +kernel
theorem dX1_sumAt_5 : decode cX1_sumAt 5 = .ok (.iload 4, 2) := by decide +kernel
theorem dX1_sumAt_7 : decode cX1_sumAt 7 = .ok (.aload_n 0, 1) := by decide +kernel
theorem dX1_sumAt_8 : decode cX1_sumAt 8 = .ok (.invokevirtual 38, 3) := by decide +kernel
theorem dX1_sumAt_11 : decode cX1_sumAt 11 = .ok (.if_icmp .ge 61, 3) := by decide +kernel
theorem dX1_sumAt_14 : decode cX1_sumAt 14 = .ok (.aload_n 0, 1) := by decide +kernel
theorem dX1_sumAt_15 : decode cX1_sumAt 15 = .ok (.getfield 13, 3) := by decide +kernel
theorem dX1_sumAt_18 : decode cX1_sumAt 18 = .ok (.iload 4, 2) := by decide +kernel
theorem dX1_sumAt_20 : decode cX1_sumAt 20 = .ok (.baload, 1) := by decide +kernel
theorem dX1_sumAt_21 : decode cX1_sumAt 21 = .ok (.ifCond .eq 7, 3) := by decide +kernel
theorem dX1_sumAt_24 : decode cX1_sumAt 24 = .ok (.iconst 0, 1) := by decide +kernel
theorem dX1_sumAt_25 : decode cX1_sumAt 25 = .ok (.goto 15, 3) := by decide +kernel
theorem dX1_sumAt_28 : decode cX1_sumAt 28 = .ok (.aload_n 0, 1) := by decide +kernel
theorem dX1_sumAt_29 : decode cX1_sumAt 29 = .ok (.getfield 7, 3) := by decide +kernel
theorem dX1_sumAt_32 : decode cX1_sumAt 32 = .ok (.bipush 64, 2) := by decide +kernel
theorem dX1_sumAt_34 : decode cX1_sumAt 34 = .ok (.iload 4, 2) := by decide +kernel
theorem dX1_sumAt_36 : decode cX1_sumAt 36 = .ok (.imul, 1) := by decide +kernel
theorem dX1_sumAt_37 : decode cX1_sumAt 37 = .ok (.iload_n 1, 1) := by decide +kernel
theorem dX1_sumAt_38 : decode cX1_sumAt 38 = .ok (.iadd, 1) := by decide +kernel
theorem dX1_sumAt_39 : decode cX1_sumAt 39 = .ok (.iaload, 1) := by decide +kernel
theorem dX1_sumAt_40 : decode cX1_sumAt 40 = .ok (.istore 5, 2) := by decide +kernel
theorem dX1_sumAt_42 : decode cX1_sumAt 42 = .ok (.iload_n 3, 1) := by decide +kernel
theorem dX1_sumAt_43 : decode cX1_sumAt 43 = .ok (.iload_n 2, 1) := by decide +kernel
theorem dX1_sumAt_44 : decode cX1_sumAt 44 = .ok (.ifCond .eq 18, 3) := by decide +kernel
theorem dX1_sumAt_47 : decode cX1_sumAt 47 = .ok (.aload_n 0, 1) := by decide +kernel
theorem dX1_sumAt_48 : decode cX1_sumAt 48 = .ok (.iload 5, 2) := by decide +kernel
theorem dX1_sumAt_50 : decode cX1_sumAt 50 = .ok (.aload_n 0, 1) := by decide +kernel
theorem dX1_sumAt_51 : decode cX1_sumAt 51 = .ok (.iload 4, 2) := by decide +kernel
theorem dX1_sumAt_53 : decode cX1_sumAt 53 = .ok (.invokevirtual 35, 3) := by decide +kernel
theorem dX1_sumAt_56 : decode cX1_sumAt 56 = .ok (.invokevirtual 28, 3) := by decide +kernel
theorem dX1_sumAt_59 : decode cX1_sumAt 59 = .ok (.goto 5, 3) := by decide +kernel
theorem dX1_sumAt_62 : decode cX1_sumAt 62 = .ok (.iload 5, 2) := by decide +kernel
theorem dX1_sumAt_64 : decode cX1_sumAt 64 = .ok (.ixor, 1) := by decide +kernel
theorem dX1_sumAt_65 : decode cX1_sumAt 65 = .ok (.istore_n 3, 1) := by decide +kernel
theorem dX1_sumAt_66 : decode cX1_sumAt 66 = .ok (.iinc 4 1, 3) := by decide +kernel
theorem dX1_sumAt_69 : decode cX1_sumAt 69 = .ok (.goto (-64), 3) := by decide +kernel
theorem dX1_sumAt_72 : decode cX1_sumAt 72 = .ok (.iload_n 3, 1) := by decide +kernel
theorem dX1_sumAt_73 : decode cX1_sumAt 73 = .ok (.ireturn, 1) := by decide +kernel
set_option maxRecDepth 20000 in
theorem ggX1_make_X1_manyLost : GoodIn wsX1_make wsX1_manyLost := goodIn_r _ [7, 8, 9, 30, 31, 32, 33] (by decide +kernel) (by decide +kernel)
set_option maxRecDepth 20000 in
theorem gX1_make_X1_manyLost : GoodIn wsX1_make (wsV RX1 52 RX1 yX1_manyLost wsX1_manyLost) := goodIn_app (goodIn_of _ (by decide +kernel)) ggX1_make_X1_manyLost
set_option maxRecDepth 20000 in
theorem ggX1_make_X1_p : GoodIn wsX1_make wsX1_p := goodIn_r _ [13, 8, 30, 31, 32, 33] (by decide +kernel) (by decide +kernel)
set_option maxRecDepth 20000 in
theorem gX1_make_X1_p : GoodIn wsX1_make (wsV RX1 38 RX1 yX1_p wsX1_p) := goodIn_app (goodIn_of _ (by decide +kernel)) ggX1_make_X1_p
set_option maxRecDepth 20000 in
theorem ggX1_make_X1_sumAt : GoodIn wsX1_make wsX1_sumAt := goodIn_r _ [17, 9, 2, 10, 11, 12, 6, 13, 8, 18, 19, 20, 21, 22, 23, 24, 25, 30, 31, 32, 33] (by decide +kernel) (by decide +kernel)
set_option maxRecDepth 20000 in
theorem gX1_make_X1_sumAt : GoodIn wsX1_make (wsV RX1 55 RX1 yX1_sumAt wsX1_sumAt) := goodIn_app (goodIn_of _ (by decide +kernel)) ggX1_make_X1_sumAt
set_option maxRecDepth 20000 in
theorem ggX1_make_X1_q : GoodIn wsX1_make wsX1_q := goodIn_r _ [29, 8, 30, 31, 32, 33] (by decide +kernel) (by decide +kernel)
set_option maxRecDepth 20000 in
theorem gX1_make_X1_q : GoodIn wsX1_make (wsV RX1 44 RX1 yX1_q wsX1_q) := goodIn_app (goodIn_of _ (by decide +kernel)) ggX1_make_X1_q
theorem dX1_make_0 : decode cX1_make 0 = .ok (.aload_n 0, 1) := by decide +kernel
theorem dX1_make_1 : decode cX1_make 1 = .ok (.iconst 0, 1) := by decide +kernel
theorem dX1_make_2 : decode cX1_make 2 = .ok (.putfield 21, 3) := by decide +kernel
theorem dX1_make_5 : decode cX1_make 5 = .ok (.aload_n 0, 1) := by decide +kernel
theorem dX1_make_6 : decode cX1_make 6 = .ok (.invokevirtual 52, 3) := by decide +kernel
theorem dX1_make_9 : decode cX1_make 9 = .ok (.ifCond .le 5, 3) := by decide +kernel
theorem dX1_make_12 : decode cX1_make 12 = .ok (.iconst (-1), 1) := by decide +kernel
theorem dX1_make_13 : decode cX1_make 13 = .ok (.ireturn, 1) := by decide +kernel
theorem dX1_make_14 : decode cX1_make 14 = .ok (.iconst 0, 1) := by decide +kernel
theorem dX1_make_15 : decode cX1_make 15 = .ok (.istore_n 1, 1) := by decide +kernel
theorem dX1_make_16 : decode cX1_make 16 = .ok (.iload_n 1, 1) := by decide +kernel
theorem dX1_make_17 : decode cX1_make 17 = .ok (.bipush 64, 2) := by decide +kernel
theorem dX1_make_19 : decode cX1_make 19 = .ok (.if_icmp .ge 49, 3) := by decide +kernel
theorem dX1_make_22 : decode cX1_make 22 = .ok (.aload_n 0, 1) := by decide +kernel
theorem dX1_make_23 : decode cX1_make 23 = .ok (.getfield 7, 3) := by decide +kernel
theorem dX1_make_26 : decode cX1_make 26 = .ok (.bipush 64, 2) := by decide +kernel
theorem dX1_make_28 : decode cX1_make 28 = .ok (.aload_n 0, 1) := by decide +kernel
theorem dX1_make_29 : decode cX1_make 29 = .ok (.invokevirtual 38, 3) := by decide +kernel
theorem dX1_make_32 : decode cX1_make 32 = .ok (.imul, 1) := by decide +kernel
theorem dX1_make_33 : decode cX1_make 33 = .ok (.iload_n 1, 1) := by decide +kernel
theorem dX1_make_34 : decode cX1_make 34 = .ok (.iadd, 1) := by decide +kernel
theorem dX1_make_35 : decode cX1_make 35 = .ok (.aload_n 0, 1) := by decide +kernel
theorem dX1_make_36 : decode cX1_make 36 = .ok (.iload_n 1, 1) := by decide +kernel
theorem dX1_make_37 : decode cX1_make 37 = .ok (.iconst 0, 1) := by decide +kernel
theorem dX1_make_38 : decode cX1_make 38 = .ok (.invokevirtual 55, 3) := by decide +kernel
theorem dX1_make_41 : decode cX1_make 41 = .ok (.iastore, 1) := by decide +kernel
theorem dX1_make_42 : decode cX1_make 42 = .ok (.aload_n 0, 1) := by decide +kernel
theorem dX1_make_43 : decode cX1_make 43 = .ok (.getfield 7, 3) := by decide +kernel
theorem dX1_make_46 : decode cX1_make 46 = .ok (.bipush 64, 2) := by decide +kernel
theorem dX1_make_48 : decode cX1_make 48 = .ok (.aload_n 0, 1) := by decide +kernel
theorem dX1_make_49 : decode cX1_make 49 = .ok (.invokevirtual 44, 3) := by decide +kernel
theorem dX1_make_52 : decode cX1_make 52 = .ok (.imul, 1) := by decide +kernel
theorem dX1_make_53 : decode cX1_make 53 = .ok (.iload_n 1, 1) := by decide +kernel
theorem dX1_make_54 : decode cX1_make 54 = .ok (.iadd, 1) := by decide +kernel
theorem dX1_make_55 : decode cX1_make 55 = .ok (.aload_n 0, 1) := by decide +kernel
theorem dX1_make_56 : decode cX1_make 56 = .ok (.iload_n 1, 1) := by decide +kernel
theorem dX1_make_57 : decode cX1_make 57 = .ok (.iconst 1, 1) := by decide +kernel
theorem dX1_make_58 : decode cX1_make 58 = .ok (.invokevirtual 55, 3) := by decide +kernel
theorem dX1_make_61 : decode cX1_make 61 = .ok (.iastore, 1) := by decide +kernel
theorem dX1_make_62 : decode cX1_make 62 = .ok (.iinc 1 1, 3) := by decide +kernel
theorem dX1_make_65 : decode cX1_make 65 = .ok (.goto (-49), 3) := by decide +kernel
theorem dX1_make_68 : decode cX1_make 68 = .ok (.iconst 0, 1) := by decide +kernel
theorem dX1_make_69 : decode cX1_make 69 = .ok (.ireturn, 1) := by decide +kernel
set_option maxRecDepth 20000 in
theorem ggX1_get_X1_noUnit : GoodIn wsX1_get wsX1_noUnit := goodIn_r _ [8, 9, 10, 11, 12, 13] (by decide +kernel) (by decide +kernel)
set_option maxRecDepth 20000 in
theorem gX1_get_X1_noUnit : GoodIn wsX1_get (wsV RX1 47 RX1 yX1_noUnit wsX1_noUnit) := goodIn_app (goodIn_of _ (by decide +kernel)) ggX1_get_X1_noUnit
theorem dX1_get_0 : decode cX1_get 0 = .ok (.aload_n 0, 1) := by decide +kernel
theorem dX1_get_1 : decode cX1_get 1 = .ok (.iconst 0, 1) := by decide +kernel
theorem dX1_get_2 : decode cX1_get 2 = .ok (.putfield 21, 3) := by decide +kernel
theorem dX1_get_5 : decode cX1_get 5 = .ok (.aload_n 0, 1) := by decide +kernel
theorem dX1_get_6 : decode cX1_get 6 = .ok (.iload_n 1, 1) := by decide +kernel
theorem dX1_get_7 : decode cX1_get 7 = .ok (.invokevirtual 47, 3) := by decide +kernel
theorem dX1_get_10 : decode cX1_get 10 = .ok (.ifCond .ne 22, 3) := by decide +kernel
theorem dX1_get_13 : decode cX1_get 13 = .ok (.aload_n 0, 1) := by decide +kernel
theorem dX1_get_14 : decode cX1_get 14 = .ok (.getfield 13, 3) := by decide +kernel
theorem dX1_get_17 : decode cX1_get 17 = .ok (.iload_n 1, 1) := by decide +kernel
theorem dX1_get_18 : decode cX1_get 18 = .ok (.baload, 1) := by decide +kernel
theorem dX1_get_19 : decode cX1_get 19 = .ok (.ifCond .ne 13, 3) := by decide +kernel
theorem dX1_get_22 : decode cX1_get 22 = .ok (.iload_n 2, 1) := by decide +kernel
theorem dX1_get_23 : decode cX1_get 23 = .ok (.ifCond .lt 9, 3) := by decide +kernel
theorem dX1_get_26 : decode cX1_get 26 = .ok (.iload_n 2, 1) := by decide +kernel
theorem dX1_get_27 : decode cX1_get 27 = .ok (.bipush 64, 2) := by decide +kernel
theorem dX1_get_29 : decode cX1_get 29 = .ok (.if_icmp .lt 7, 3) := by decide +kernel
theorem dX1_get_32 : decode cX1_get 32 = .ok (.iconst (-1), 1) := by decide +kernel
theorem dX1_get_33 : decode cX1_get 33 = .ok (.goto 14, 3) := by decide +kernel
theorem dX1_get_36 : decode cX1_get 36 = .ok (.aload_n 0, 1) := by decide +kernel
theorem dX1_get_37 : decode cX1_get 37 = .ok (.getfield 7, 3) := by decide +kernel
theorem dX1_get_40 : decode cX1_get 40 = .ok (.bipush 64, 2) := by decide +kernel
theorem dX1_get_42 : decode cX1_get 42 = .ok (.iload_n 1, 1) := by decide +kernel
theorem dX1_get_43 : decode cX1_get 43 = .ok (.imul, 1) := by decide +kernel
theorem dX1_get_44 : decode cX1_get 44 = .ok (.iload_n 2, 1) := by decide +kernel
theorem dX1_get_45 : decode cX1_get 45 = .ok (.iadd, 1) := by decide +kernel
theorem dX1_get_46 : decode cX1_get 46 = .ok (.iaload, 1) := by decide +kernel
theorem dX1_get_47 : decode cX1_get 47 = .ok (.ireturn, 1) := by decide +kernel
set_option maxRecDepth 20000 in
theorem ggX1_word_X1_noUnit : GoodIn wsX1_word wsX1_noUnit := goodIn_r _ [8, 9, 10, 11, 12, 13] (by decide +kernel) (by decide +kernel)
set_option maxRecDepth 20000 in
theorem gX1_word_X1_noUnit : GoodIn wsX1_word (wsV RX1 47 RX1 yX1_noUnit wsX1_noUnit) := goodIn_app (goodIn_of _ (by decide +kernel)) ggX1_word_X1_noUnit
theorem dX1_word_0 : decode cX1_word 0 = .ok (.aload_n 0, 1) := by decide +kernel
theorem dX1_word_1 : decode cX1_word 1 = .ok (.iconst 0, 1) := by decide +kernel
theorem dX1_word_2 : decode cX1_word 2 = .ok (.putfield 21, 3) := by decide +kernel
theorem dX1_word_5 : decode cX1_word 5 = .ok (.lconst 0, 1) := by decide +kernel
theorem dX1_word_6 : decode cX1_word 6 = .ok (.lstore_n 3, 1) := by decide +kernel
theorem dX1_word_7 : decode cX1_word 7 = .ok (.bipush 7, 2) := by decide +kernel
theorem dX1_word_9 : decode cX1_word 9 = .ok (.istore 5, 2) := by decide +kernel
theorem dX1_word_11 : decode cX1_word 11 = .ok (.iload 5, 2) := by decide +kernel
theorem dX1_word_13 : decode cX1_word 13 = .ok (.ifCond .lt 60, 3) := by decide +kernel
theorem dX1_word_16 : decode cX1_word 16 = .ok (.aload_n 0, 1) := by decide +kernel
theorem dX1_word_17 : decode cX1_word 17 = .ok (.iload_n 1, 1) := by decide +kernel
theorem dX1_word_18 : decode cX1_word 18 = .ok (.invokevirtual 47, 3) := by decide +kernel
theorem dX1_word_21 : decode cX1_word 21 = .ok (.ifCond .ne 52, 3) := by decide +kernel
theorem dX1_word_24 : decode cX1_word 24 = .ok (.aload_n 0, 1) := by decide +kernel
theorem dX1_word_25 : decode cX1_word 25 = .ok (.getfield 13, 3) := by decide +kernel
theorem dX1_word_28 : decode cX1_word 28 = .ok (.iload_n 1, 1) := by decide +kernel
theorem dX1_word_29 : decode cX1_word 29 = .ok (.baload, 1) := by decide +kernel
theorem dX1_word_30 : decode cX1_word 30 = .ok (.ifCond .ne 43, 3) := by decide +kernel
theorem dX1_word_33 : decode cX1_word 33 = .ok (.iload_n 2, 1) := by decide +kernel
theorem dX1_word_34 : decode cX1_word 34 = .ok (.ifCond .lt 39, 3) := by decide +kernel
theorem dX1_word_37 : decode cX1_word 37 = .ok (.iload_n 2, 1) := by decide +kernel
theorem dX1_word_38 : decode cX1_word 38 = .ok (.bipush 8, 2) := by decide +kernel
theorem dX1_word_40 : decode cX1_word 40 = .ok (.if_icmp .ge 33, 3) := by decide +kernel
theorem dX1_word_43 : decode cX1_word 43 = .ok (.lload_n 3, 1) := by decide +kernel
theorem dX1_word_44 : decode cX1_word 44 = .ok (.bipush 8, 2) := by decide +kernel
theorem dX1_word_46 : decode cX1_word 46 = .ok (.lshl, 1) := by decide +kernel
theorem dX1_word_47 : decode cX1_word 47 = .ok (.aload_n 0, 1) := by decide +kernel
theorem dX1_word_48 : decode cX1_word 48 = .ok (.getfield 7, 3) := by decide +kernel
theorem dX1_word_51 : decode cX1_word 51 = .ok (.bipush 64, 2) := by decide +kernel
theorem dX1_word_53 : decode cX1_word 53 = .ok (.iload_n 1, 1) := by decide +kernel
theorem dX1_word_54 : decode cX1_word 54 = .ok (.imul, 1) := by decide +kernel
theorem dX1_word_55 : decode cX1_word 55 = .ok (.bipush 8, 2) := by decide +kernel
theorem dX1_word_57 : decode cX1_word 57 = .ok (.iload_n 2, 1) := by decide +kernel
theorem dX1_word_58 : decode cX1_word 58 = .ok (.imul, 1) := by decide +kernel
theorem dX1_word_59 : decode cX1_word 59 = .ok (.iadd, 1) := by decide +kernel
theorem dX1_word_60 : decode cX1_word 60 = .ok (.iload 5, 2) := by decide +kernel
theorem dX1_word_62 : decode cX1_word 62 = .ok (.iadd, 1) := by decide +kernel
theorem dX1_word_63 : decode cX1_word 63 = .ok (.iaload, 1) := by decide +kernel
theorem dX1_word_64 : decode cX1_word 64 = .ok (.i2l, 1) := by decide +kernel
theorem dX1_word_65 : decode cX1_word 65 = .ok (.lor, 1) := by decide +kernel
theorem dX1_word_66 : decode cX1_word 66 = .ok (.lstore_n 3, 1) := by decide +kernel
theorem dX1_word_67 : decode cX1_word 67 = .ok (.iinc 5 (-1), 3) := by decide +kernel
theorem dX1_word_70 : decode cX1_word 70 = .ok (.goto (-59), 3) := by decide +kernel
theorem dX1_word_73 : decode cX1_word 73 = .ok (.lload_n 3, 1) := by decide +kernel
theorem dX1_word_74 : decode cX1_word 74 = .ok (.lreturn, 1) := by decide +kernel
set_option maxRecDepth 20000 in
theorem ggX1_lose_X1_noUnit : GoodIn wsX1_lose wsX1_noUnit := goodIn_r _ [7, 8, 13, 14, 15, 16] (by decide +kernel) (by decide +kernel)
set_option maxRecDepth 20000 in
theorem gX1_lose_X1_noUnit : GoodIn wsX1_lose (wsV RX1 47 RX1 yX1_noUnit wsX1_noUnit) := goodIn_app (goodIn_of _ (by decide +kernel)) ggX1_lose_X1_noUnit
set_option maxRecDepth 20000 in
theorem ggX1_lose_X1_manyLost : GoodIn wsX1_lose wsX1_manyLost := goodIn_r _ [12, 8, 2, 13, 14, 15, 16] (by decide +kernel) (by decide +kernel)
set_option maxRecDepth 20000 in
theorem gX1_lose_X1_manyLost : GoodIn wsX1_lose (wsV RX1 52 RX1 yX1_manyLost wsX1_manyLost) := goodIn_app (goodIn_of _ (by decide +kernel)) ggX1_lose_X1_manyLost
theorem dX1_lose_0 : decode cX1_lose 0 = .ok (.aload_n 0, 1) := by decide +kernel
theorem dX1_lose_1 : decode cX1_lose 1 = .ok (.iconst 0, 1) := by decide +kernel
theorem dX1_lose_2 : decode cX1_lose 2 = .ok (.putfield 21, 3) := by decide +kernel
theorem dX1_lose_5 : decode cX1_lose 5 = .ok (.aload_n 0, 1) := by decide +kernel
theorem dX1_lose_6 : decode cX1_lose 6 = .ok (.iload_n 1, 1) := by decide +kernel
theorem dX1_lose_7 : decode cX1_lose 7 = .ok (.invokevirtual 47, 3) := by decide +kernel
theorem dX1_lose_10 : decode cX1_lose 10 = .ok (.ifCond .ne 12, 3) := by decide +kernel
theorem dX1_lose_13 : decode cX1_lose 13 = .ok (.aload_n 0, 1) := by decide +kernel
theorem dX1_lose_14 : decode cX1_lose 14 = .ok (.getfield 13, 3) := by decide +kernel
theorem dX1_lose_17 : decode cX1_lose 17 = .ok (.iload_n 1, 1) := by decide +kernel
theorem dX1_lose_18 : decode cX1_lose 18 = .ok (.baload, 1) := by decide +kernel
theorem dX1_lose_19 : decode cX1_lose 19 = .ok (.ifCond .eq 5, 3) := by decide +kernel
theorem dX1_lose_22 : decode cX1_lose 22 = .ok (.iconst (-1), 1) := by decide +kernel
theorem dX1_lose_23 : decode cX1_lose 23 = .ok (.ireturn, 1) := by decide +kernel
theorem dX1_lose_24 : decode cX1_lose 24 = .ok (.aload_n 0, 1) := by decide +kernel
theorem dX1_lose_25 : decode cX1_lose 25 = .ok (.invokevirtual 52, 3) := by decide +kernel
theorem dX1_lose_28 : decode cX1_lose 28 = .ok (.iconst 2, 1) := by decide +kernel
theorem dX1_lose_29 : decode cX1_lose 29 = .ok (.if_icmp .ne 6, 3) := by decide +kernel
theorem dX1_lose_32 : decode cX1_lose 32 = .ok (.bipush (-3), 2) := by decide +kernel
theorem dX1_lose_34 : decode cX1_lose 34 = .ok (.ireturn, 1) := by decide +kernel
theorem dX1_lose_35 : decode cX1_lose 35 = .ok (.aload_n 0, 1) := by decide +kernel
theorem dX1_lose_36 : decode cX1_lose 36 = .ok (.getfield 13, 3) := by decide +kernel
theorem dX1_lose_39 : decode cX1_lose 39 = .ok (.iload_n 1, 1) := by decide +kernel
theorem dX1_lose_40 : decode cX1_lose 40 = .ok (.iconst 1, 1) := by decide +kernel
theorem dX1_lose_41 : decode cX1_lose 41 = .ok (.bastore, 1) := by decide +kernel
theorem dX1_lose_42 : decode cX1_lose 42 = .ok (.aload_n 0, 1) := by decide +kernel
theorem dX1_lose_43 : decode cX1_lose 43 = .ok (.invokevirtual 52, 3) := by decide +kernel
theorem dX1_lose_46 : decode cX1_lose 46 = .ok (.ireturn, 1) := by decide +kernel
theorem dX1_lowest_0 : decode cX1_lowest 0 = .ok (.iload_n 1, 1) := by decide +kernel
theorem dX1_lowest_1 : decode cX1_lowest 1 = .ok (.istore_n 2, 1) := by decide +kernel
theorem dX1_lowest_2 : decode cX1_lowest 2 = .ok (.iload_n 2, 1) := by decide +kernel
theorem dX1_lowest_3 : decode cX1_lowest 3 = .ok (.aload_n 0, 1) := by decide +kernel
theorem dX1_lowest_4 : decode cX1_lowest 4 = .ok (.getfield 25, 3) := by decide +kernel
theorem dX1_lowest_7 : decode cX1_lowest 7 = .ok (.if_icmp .ge 18, 3) := by decide +kernel
theorem dX1_lowest_10 : decode cX1_lowest 10 = .ok (.aload_n 0, 1) := by decide +kernel
theorem dX1_lowest_11 : decode cX1_lowest 11 = .ok (.getfield 13, 3) := by decide +kernel
theorem dX1_lowest_14 : decode cX1_lowest 14 = .ok (.iload_n 2, 1) := by decide +kernel
theorem dX1_lowest_15 : decode cX1_lowest 15 = .ok (.baload, 1) := by decide +kernel
theorem dX1_lowest_16 : decode cX1_lowest 16 = .ok (.ifCond .ne 9, 3) := by decide +kernel
theorem dX1_lowest_19 : decode cX1_lowest 19 = .ok (.iinc 2 1, 3) := by decide +kernel
theorem dX1_lowest_22 : decode cX1_lowest 22 = .ok (.goto (-20), 3) := by decide +kernel
theorem dX1_lowest_25 : decode cX1_lowest 25 = .ok (.iload_n 2, 1) := by decide +kernel
theorem dX1_lowest_26 : decode cX1_lowest 26 = .ok (.ireturn, 1) := by decide +kernel
set_option maxRecDepth 20000 in
theorem ggX1_wouldFit_X1_sumAt : GoodIn wsX1_wouldFit wsX1_sumAt := goodIn_r _ [7, 1, 2, 8, 9, 10, 6, 11, 12, 13, 14, 15, 16, 17, 18, 19, 20, 25, 26, 27, 28] (by decide +kernel) (by decide +kernel)
set_option maxRecDepth 20000 in
theorem gX1_wouldFit_X1_sumAt : GoodIn wsX1_wouldFit (wsV RX1 55 RX1 yX1_sumAt wsX1_sumAt) := goodIn_app (goodIn_of _ (by decide +kernel)) ggX1_wouldFit_X1_sumAt
set_option maxRecDepth 20000 in
theorem ggX1_wouldFit_X1_p : GoodIn wsX1_wouldFit wsX1_p := goodIn_r _ [11, 12, 25, 26, 27, 28] (by decide +kernel) (by decide +kernel)
set_option maxRecDepth 20000 in
theorem gX1_wouldFit_X1_p : GoodIn wsX1_wouldFit (wsV RX1 38 RX1 yX1_p wsX1_p) := goodIn_app (goodIn_of _ (by decide +kernel)) ggX1_wouldFit_X1_p
set_option maxRecDepth 20000 in
theorem ggX1_wouldFit_X1_twos : GoodIn wsX1_wouldFit wsX1_twos := goodIn_r _ [16, 17, 18, 19, 6, 20] (by decide +kernel) (by decide +kernel)
set_option maxRecDepth 20000 in
theorem gX1_wouldFit_X1_twos : GoodIn wsX1_wouldFit (wsV RX1 35 RX1 yX1_twos wsX1_twos) := goodIn_app (goodIn_of _ (by decide +kernel)) ggX1_wouldFit_X1_twos
set_option maxRecDepth 20000 in
theorem ggX1_wouldFit_X1_times : GoodIn wsX1_wouldFit wsX1_times := goodIn_r _ [20] (by decide +kernel) (by decide +kernel)
set_option maxRecDepth 20000 in
theorem gX1_wouldFit_X1_times : GoodIn wsX1_wouldFit (wsV RX1 28 RX1 yX1_times wsX1_times) := goodIn_app (goodIn_of _ (by decide +kernel)) ggX1_wouldFit_X1_times
set_option maxRecDepth 20000 in
theorem ggX1_wouldFit_X1_q : GoodIn wsX1_wouldFit wsX1_q := goodIn_r _ [24, 12, 25, 26, 27, 28] (by decide +kernel) (by decide +kernel)
set_option maxRecDepth 20000 in
theorem gX1_wouldFit_X1_q : GoodIn wsX1_wouldFit (wsV RX1 44 RX1 yX1_q wsX1_q) := goodIn_app (goodIn_of _ (by decide +kernel)) ggX1_wouldFit_X1_q
theorem dX1_wouldFit_0 : decode cX1_wouldFit 0 = .ok (.aload_n 0, 1) := by decide +kernel
theorem dX1_wouldFit_1 : decode cX1_wouldFit 1 = .ok (.iload_n 1, 1) := by decide +kernel
theorem dX1_wouldFit_2 : decode cX1_wouldFit 2 = .ok (.iconst 0, 1) := by decide +kernel
theorem dX1_wouldFit_3 : decode cX1_wouldFit 3 = .ok (.invokevirtual 55, 3) := by decide +kernel
theorem dX1_wouldFit_6 : decode cX1_wouldFit 6 = .ok (.iload_n 2, 1) := by decide +kernel
theorem dX1_wouldFit_7 : decode cX1_wouldFit 7 = .ok (.aload_n 0, 1) := by decide +kernel
theorem dX1_wouldFit_8 : decode cX1_wouldFit 8 = .ok (.invokevirtual 38, 3) := by decide +kernel
theorem dX1_wouldFit_11 : decode cX1_wouldFit 11 = .ok (.if_icmp .ge 7, 3) := by decide +kernel
theorem dX1_wouldFit_14 : decode cX1_wouldFit 14 = .ok (.iload_n 3, 1) := by decide +kernel
theorem dX1_wouldFit_15 : decode cX1_wouldFit 15 = .ok (.goto 4, 3) := by decide +kernel
theorem dX1_wouldFit_18 : decode cX1_wouldFit 18 = .ok (.iconst 0, 1) := by decide +kernel
theorem dX1_wouldFit_19 : decode cX1_wouldFit 19 = .ok (.ixor, 1) := by decide +kernel
theorem dX1_wouldFit_20 : decode cX1_wouldFit 20 = .ok (.iload 4, 2) := by decide +kernel
theorem dX1_wouldFit_22 : decode cX1_wouldFit 22 = .ok (.aload_n 0, 1) := by decide +kernel
theorem dX1_wouldFit_23 : decode cX1_wouldFit 23 = .ok (.invokevirtual 38, 3) := by decide +kernel
theorem dX1_wouldFit_26 : decode cX1_wouldFit 26 = .ok (.if_icmp .ge 8, 3) := by decide +kernel
theorem dX1_wouldFit_29 : decode cX1_wouldFit 29 = .ok (.iload 5, 2) := by decide +kernel
theorem dX1_wouldFit_31 : decode cX1_wouldFit 31 = .ok (.goto 4, 3) := by decide +kernel
theorem dX1_wouldFit_34 : decode cX1_wouldFit 34 = .ok (.iconst 0, 1) := by decide +kernel
theorem dX1_wouldFit_35 : decode cX1_wouldFit 35 = .ok (.ixor, 1) := by decide +kernel
theorem dX1_wouldFit_36 : decode cX1_wouldFit 36 = .ok (.istore 6, 2) := by decide +kernel
theorem dX1_wouldFit_38 : decode cX1_wouldFit 38 = .ok (.aload_n 0, 1) := by decide +kernel
theorem dX1_wouldFit_39 : decode cX1_wouldFit 39 = .ok (.iload_n 1, 1) := by decide +kernel
theorem dX1_wouldFit_40 : decode cX1_wouldFit 40 = .ok (.iconst 1, 1) := by decide +kernel
theorem dX1_wouldFit_41 : decode cX1_wouldFit 41 = .ok (.invokevirtual 55, 3) := by decide +kernel
