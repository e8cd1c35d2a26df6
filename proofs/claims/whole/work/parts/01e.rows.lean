theorem dX1_wouldFit_44 : decode cX1_wouldFit 44 = .ok (.iload_n 2, 1) := by decide +kernel
theorem dX1_wouldFit_45 : decode cX1_wouldFit 45 = .ok (.aload_n 0, 1) := by decide +kernel
theorem dX1_wouldFit_46 : decode cX1_wouldFit 46 = .ok (.invokevirtual 38, 3) := by decide +kernel
theorem dX1_wouldFit_49 : decode cX1_wouldFit 49 = .ok (.if_icmp .ge 16, 3) := by decide +kernel
theorem dX1_wouldFit_52 : decode cX1_wouldFit 52 = .ok (.aload_n 0, 1) := by decide +kernel
theorem dX1_wouldFit_53 : decode cX1_wouldFit 53 = .ok (.iload_n 3, 1) := by decide +kernel
theorem dX1_wouldFit_54 : decode cX1_wouldFit 54 = .ok (.aload_n 0, 1) := by decide +kernel
theorem dX1_wouldFit_55 : decode cX1_wouldFit 55 = .ok (.iload_n 2, 1) := by decide +kernel
theorem dX1_wouldFit_56 : decode cX1_wouldFit 56 = .ok (.invokevirtual 35, 3) := by decide +kernel
theorem dX1_wouldFit_59 : decode cX1_wouldFit 59 = .ok (.invokevirtual 28, 3) := by decide +kernel
theorem dX1_wouldFit_62 : decode cX1_wouldFit 62 = .ok (.goto 4, 3) := by decide +kernel
theorem dX1_wouldFit_65 : decode cX1_wouldFit 65 = .ok (.iconst 0, 1) := by decide +kernel
theorem dX1_wouldFit_66 : decode cX1_wouldFit 66 = .ok (.ixor, 1) := by decide +kernel
theorem dX1_wouldFit_67 : decode cX1_wouldFit 67 = .ok (.iload 4, 2) := by decide +kernel
theorem dX1_wouldFit_69 : decode cX1_wouldFit 69 = .ok (.aload_n 0, 1) := by decide +kernel
theorem dX1_wouldFit_70 : decode cX1_wouldFit 70 = .ok (.invokevirtual 38, 3) := by decide +kernel
theorem dX1_wouldFit_73 : decode cX1_wouldFit 73 = .ok (.if_icmp .ge 18, 3) := by decide +kernel
theorem dX1_wouldFit_76 : decode cX1_wouldFit 76 = .ok (.aload_n 0, 1) := by decide +kernel
theorem dX1_wouldFit_77 : decode cX1_wouldFit 77 = .ok (.iload 5, 2) := by decide +kernel
theorem dX1_wouldFit_79 : decode cX1_wouldFit 79 = .ok (.aload_n 0, 1) := by decide +kernel
theorem dX1_wouldFit_80 : decode cX1_wouldFit 80 = .ok (.iload 4, 2) := by decide +kernel
theorem dX1_wouldFit_82 : decode cX1_wouldFit 82 = .ok (.invokevirtual 35, 3) := by decide +kernel
theorem dX1_wouldFit_85 : decode cX1_wouldFit 85 = .ok (.invokevirtual 28, 3) := by decide +kernel
theorem dX1_wouldFit_88 : decode cX1_wouldFit 88 = .ok (.goto 4, 3) := by decide +kernel
theorem dX1_wouldFit_91 : decode cX1_wouldFit 91 = .ok (.iconst 0, 1) := by decide +kernel
theorem dX1_wouldFit_92 : decode cX1_wouldFit 92 = .ok (.ixor, 1) := by decide +kernel
theorem dX1_wouldFit_93 : decode cX1_wouldFit 93 = .ok (.istore 7, 2) := by decide +kernel
theorem dX1_wouldFit_95 : decode cX1_wouldFit 95 = .ok (.aload_n 0, 1) := by decide +kernel
theorem dX1_wouldFit_96 : decode cX1_wouldFit 96 = .ok (.getfield 13, 3) := by decide +kernel
theorem dX1_wouldFit_99 : decode cX1_wouldFit 99 = .ok (.aload_n 0, 1) := by decide +kernel
theorem dX1_wouldFit_100 : decode cX1_wouldFit 100 = .ok (.invokevirtual 38, 3) := by decide +kernel
theorem dX1_wouldFit_103 : decode cX1_wouldFit 103 = .ok (.baload, 1) := by decide +kernel
theorem dX1_wouldFit_104 : decode cX1_wouldFit 104 = .ok (.ifCond .ne 22, 3) := by decide +kernel
theorem dX1_wouldFit_107 : decode cX1_wouldFit 107 = .ok (.iload 6, 2) := by decide +kernel
theorem dX1_wouldFit_109 : decode cX1_wouldFit 109 = .ok (.aload_n 0, 1) := by decide +kernel
theorem dX1_wouldFit_110 : decode cX1_wouldFit 110 = .ok (.getfield 7, 3) := by decide +kernel
theorem dX1_wouldFit_113 : decode cX1_wouldFit 113 = .ok (.bipush 64, 2) := by decide +kernel
theorem dX1_wouldFit_115 : decode cX1_wouldFit 115 = .ok (.aload_n 0, 1) := by decide +kernel
theorem dX1_wouldFit_116 : decode cX1_wouldFit 116 = .ok (.invokevirtual 38, 3) := by decide +kernel
theorem dX1_wouldFit_119 : decode cX1_wouldFit 119 = .ok (.imul, 1) := by decide +kernel
theorem dX1_wouldFit_120 : decode cX1_wouldFit 120 = .ok (.iload_n 1, 1) := by decide +kernel
theorem dX1_wouldFit_121 : decode cX1_wouldFit 121 = .ok (.iadd, 1) := by decide +kernel
theorem dX1_wouldFit_122 : decode cX1_wouldFit 122 = .ok (.iaload, 1) := by decide +kernel
theorem dX1_wouldFit_123 : decode cX1_wouldFit 123 = .ok (.if_icmp .ne 7, 3) := by decide +kernel
theorem dX1_wouldFit_126 : decode cX1_wouldFit 126 = .ok (.iconst 1, 1) := by decide +kernel
theorem dX1_wouldFit_127 : decode cX1_wouldFit 127 = .ok (.goto 4, 3) := by decide +kernel
theorem dX1_wouldFit_130 : decode cX1_wouldFit 130 = .ok (.iconst 0, 1) := by decide +kernel
theorem dX1_wouldFit_131 : decode cX1_wouldFit 131 = .ok (.istore 8, 2) := by decide +kernel
theorem dX1_wouldFit_133 : decode cX1_wouldFit 133 = .ok (.aload_n 0, 1) := by decide +kernel
theorem dX1_wouldFit_134 : decode cX1_wouldFit 134 = .ok (.getfield 13, 3) := by decide +kernel
theorem dX1_wouldFit_137 : decode cX1_wouldFit 137 = .ok (.aload_n 0, 1) := by decide +kernel
theorem dX1_wouldFit_138 : decode cX1_wouldFit 138 = .ok (.invokevirtual 44, 3) := by decide +kernel
theorem dX1_wouldFit_141 : decode cX1_wouldFit 141 = .ok (.baload, 1) := by decide +kernel
theorem dX1_wouldFit_142 : decode cX1_wouldFit 142 = .ok (.ifCond .ne 22, 3) := by decide +kernel
theorem dX1_wouldFit_145 : decode cX1_wouldFit 145 = .ok (.iload 7, 2) := by decide +kernel
theorem dX1_wouldFit_147 : decode cX1_wouldFit 147 = .ok (.aload_n 0, 1) := by decide +kernel
theorem dX1_wouldFit_148 : decode cX1_wouldFit 148 = .ok (.getfield 7, 3) := by decide +kernel
theorem dX1_wouldFit_151 : decode cX1_wouldFit 151 = .ok (.bipush 64, 2) := by decide +kernel
theorem dX1_wouldFit_153 : decode cX1_wouldFit 153 = .ok (.aload_n 0, 1) := by decide +kernel
theorem dX1_wouldFit_154 : decode cX1_wouldFit 154 = .ok (.invokevirtual 44, 3) := by decide +kernel
theorem dX1_wouldFit_157 : decode cX1_wouldFit 157 = .ok (.imul, 1) := by decide +kernel
theorem dX1_wouldFit_158 : decode cX1_wouldFit 158 = .ok (.iload_n 1, 1) := by decide +kernel
theorem dX1_wouldFit_159 : decode cX1_wouldFit 159 = .ok (.iadd, 1) := by decide +kernel
theorem dX1_wouldFit_160 : decode cX1_wouldFit 160 = .ok (.iaload, 1) := by decide +kernel
theorem dX1_wouldFit_161 : decode cX1_wouldFit 161 = .ok (.if_icmp .ne 7, 3) := by decide +kernel
theorem dX1_wouldFit_164 : decode cX1_wouldFit 164 = .ok (.iconst 1, 1) := by decide +kernel
theorem dX1_wouldFit_165 : decode cX1_wouldFit 165 = .ok (.goto 4, 3) := by decide +kernel
theorem dX1_wouldFit_168 : decode cX1_wouldFit 168 = .ok (.iconst 0, 1) := by decide +kernel
theorem dX1_wouldFit_169 : decode cX1_wouldFit 169 = .ok (.istore 9, 2) := by decide +kernel
theorem dX1_wouldFit_171 : decode cX1_wouldFit 171 = .ok (.iload 8, 2) := by decide +kernel
theorem dX1_wouldFit_173 : decode cX1_wouldFit 173 = .ok (.ifCond .eq 33, 3) := by decide +kernel
theorem dX1_wouldFit_176 : decode cX1_wouldFit 176 = .ok (.iload 9, 2) := by decide +kernel
theorem dX1_wouldFit_178 : decode cX1_wouldFit 178 = .ok (.ifCond .ne 24, 3) := by decide +kernel
theorem dX1_wouldFit_181 : decode cX1_wouldFit 181 = .ok (.iload 4, 2) := by decide +kernel
theorem dX1_wouldFit_183 : decode cX1_wouldFit 183 = .ok (.aload_n 0, 1) := by decide +kernel
theorem dX1_wouldFit_184 : decode cX1_wouldFit 184 = .ok (.invokevirtual 38, 3) := by decide +kernel
theorem dX1_wouldFit_187 : decode cX1_wouldFit 187 = .ok (.if_icmp .lt 19, 3) := by decide +kernel
theorem dX1_wouldFit_190 : decode cX1_wouldFit 190 = .ok (.aload_n 0, 1) := by decide +kernel
theorem dX1_wouldFit_191 : decode cX1_wouldFit 191 = .ok (.getfield 13, 3) := by decide +kernel
theorem dX1_wouldFit_194 : decode cX1_wouldFit 194 = .ok (.aload_n 0, 1) := by decide +kernel
theorem dX1_wouldFit_195 : decode cX1_wouldFit 195 = .ok (.invokevirtual 38, 3) := by decide +kernel
theorem dX1_wouldFit_198 : decode cX1_wouldFit 198 = .ok (.baload, 1) := by decide +kernel
theorem dX1_wouldFit_199 : decode cX1_wouldFit 199 = .ok (.ifCond .ne 7, 3) := by decide +kernel
theorem dX1_wouldFit_202 : decode cX1_wouldFit 202 = .ok (.iconst 1, 1) := by decide +kernel
theorem dX1_wouldFit_203 : decode cX1_wouldFit 203 = .ok (.goto 4, 3) := by decide +kernel
theorem dX1_wouldFit_206 : decode cX1_wouldFit 206 = .ok (.iconst 0, 1) := by decide +kernel
theorem dX1_wouldFit_207 : decode cX1_wouldFit 207 = .ok (.ireturn, 1) := by decide +kernel
set_option maxRecDepth 20000 in
theorem ggX1_find_X1_p : GoodIn wsX1_find wsX1_p := goodIn_r _ [6, 7, 29, 30, 31, 32] (by decide +kernel) (by decide +kernel)
set_option maxRecDepth 20000 in
theorem gX1_find_X1_p : GoodIn wsX1_find (wsV RX1 38 RX1 yX1_p wsX1_p) := goodIn_app (goodIn_of _ (by decide +kernel)) ggX1_find_X1_p
set_option maxRecDepth 20000 in
theorem ggX1_find_X1_sumAt : GoodIn wsX1_find wsX1_sumAt := goodIn_r _ [11, 12, 1, 2, 3, 4, 5, 6, 7, 13, 14, 15, 16, 17, 18, 19, 20, 29, 30, 31, 32] (by decide +kernel) (by decide +kernel)
set_option maxRecDepth 20000 in
theorem gX1_find_X1_sumAt : GoodIn wsX1_find (wsV RX1 55 RX1 yX1_sumAt wsX1_sumAt) := goodIn_app (goodIn_of _ (by decide +kernel)) ggX1_find_X1_sumAt
set_option maxRecDepth 20000 in
theorem ggX1_find_X1_wouldFit : GoodIn wsX1_find wsX1_wouldFit := goodIn_r _ [24, 12, 1, 8, 9, 10, 5, 11, 2, 3, 4, 6, 7, 13, 14, 15, 16, 17, 18, 19, 20, 25, 26, 27, 28, 29, 30, 31, 32] (by decide +kernel) (by decide +kernel)
set_option maxRecDepth 20000 in
theorem gX1_find_X1_wouldFit : GoodIn wsX1_find (wsV RX1 59 RX1 yX1_wouldFit wsX1_wouldFit) := goodIn_app (goodIn_of _ (by decide +kernel)) ggX1_find_X1_wouldFit
theorem dX1_find_0 : decode cX1_find 0 = .ok (.iconst 0, 1) := by decide +kernel
theorem dX1_find_1 : decode cX1_find 1 = .ok (.istore 4, 2) := by decide +kernel
theorem dX1_find_3 : decode cX1_find 3 = .ok (.iload 4, 2) := by decide +kernel
theorem dX1_find_5 : decode cX1_find 5 = .ok (.iload_n 2, 1) := by decide +kernel
theorem dX1_find_6 : decode cX1_find 6 = .ok (.aload_n 0, 1) := by decide +kernel
theorem dX1_find_7 : decode cX1_find 7 = .ok (.invokevirtual 38, 3) := by decide +kernel
theorem dX1_find_10 : decode cX1_find 10 = .ok (.if_icmp .ge 9, 3) := by decide +kernel
theorem dX1_find_13 : decode cX1_find 13 = .ok (.sipush 256, 3) := by decide +kernel
theorem dX1_find_16 : decode cX1_find 16 = .ok (.goto 4, 3) := by decide +kernel
theorem dX1_find_19 : decode cX1_find 19 = .ok (.iconst 1, 1) := by decide +kernel
theorem dX1_find_20 : decode cX1_find 20 = .ok (.if_icmp .ge 185, 3) := by decide +kernel
theorem dX1_find_23 : decode cX1_find 23 = .ok (.iconst 0, 1) := by decide +kernel
theorem dX1_find_24 : decode cX1_find 24 = .ok (.istore 5, 2) := by decide +kernel
theorem dX1_find_26 : decode cX1_find 26 = .ok (.iload 5, 2) := by decide +kernel
theorem dX1_find_28 : decode cX1_find 28 = .ok (.iload_n 3, 1) := by decide +kernel
theorem dX1_find_29 : decode cX1_find 29 = .ok (.aload_n 0, 1) := by decide +kernel
theorem dX1_find_30 : decode cX1_find 30 = .ok (.invokevirtual 38, 3) := by decide +kernel
theorem dX1_find_33 : decode cX1_find 33 = .ok (.if_icmp .ge 9, 3) := by decide +kernel
theorem dX1_find_36 : decode cX1_find 36 = .ok (.sipush 256, 3) := by decide +kernel
theorem dX1_find_39 : decode cX1_find 39 = .ok (.goto 4, 3) := by decide +kernel
theorem dX1_find_42 : decode cX1_find 42 = .ok (.iconst 1, 1) := by decide +kernel
theorem dX1_find_43 : decode cX1_find 43 = .ok (.if_icmp .ge 156, 3) := by decide +kernel
theorem dX1_find_46 : decode cX1_find 46 = .ok (.iload_n 3, 1) := by decide +kernel
theorem dX1_find_47 : decode cX1_find 47 = .ok (.aload_n 0, 1) := by decide +kernel
theorem dX1_find_48 : decode cX1_find 48 = .ok (.invokevirtual 38, 3) := by decide +kernel
theorem dX1_find_51 : decode cX1_find 51 = .ok (.if_icmp .ge 30, 3) := by decide +kernel
theorem dX1_find_54 : decode cX1_find 54 = .ok (.aload_n 0, 1) := by decide +kernel
theorem dX1_find_55 : decode cX1_find 55 = .ok (.iload_n 1, 1) := by decide +kernel
theorem dX1_find_56 : decode cX1_find 56 = .ok (.iconst 0, 1) := by decide +kernel
theorem dX1_find_57 : decode cX1_find 57 = .ok (.invokevirtual 55, 3) := by decide +kernel
theorem dX1_find_60 : decode cX1_find 60 = .ok (.iload 4, 2) := by decide +kernel
theorem dX1_find_62 : decode cX1_find 62 = .ok (.ixor, 1) := by decide +kernel
theorem dX1_find_63 : decode cX1_find 63 = .ok (.aload_n 0, 1) := by decide +kernel
theorem dX1_find_64 : decode cX1_find 64 = .ok (.getfield 7, 3) := by decide +kernel
theorem dX1_find_67 : decode cX1_find 67 = .ok (.bipush 64, 2) := by decide +kernel
theorem dX1_find_69 : decode cX1_find 69 = .ok (.aload_n 0, 1) := by decide +kernel
theorem dX1_find_70 : decode cX1_find 70 = .ok (.invokevirtual 38, 3) := by decide +kernel
theorem dX1_find_73 : decode cX1_find 73 = .ok (.imul, 1) := by decide +kernel
theorem dX1_find_74 : decode cX1_find 74 = .ok (.iload_n 1, 1) := by decide +kernel
theorem dX1_find_75 : decode cX1_find 75 = .ok (.iadd, 1) := by decide +kernel
theorem dX1_find_76 : decode cX1_find 76 = .ok (.iaload, 1) := by decide +kernel
theorem dX1_find_77 : decode cX1_find 77 = .ok (.ixor, 1) := by decide +kernel
theorem dX1_find_78 : decode cX1_find 78 = .ok (.goto 4, 3) := by decide +kernel
theorem dX1_find_81 : decode cX1_find 81 = .ok (.iconst 0, 1) := by decide +kernel
theorem dX1_find_82 : decode cX1_find 82 = .ok (.istore 6, 2) := by decide +kernel
theorem dX1_find_84 : decode cX1_find 84 = .ok (.aload_n 0, 1) := by decide +kernel
theorem dX1_find_85 : decode cX1_find 85 = .ok (.iload_n 1, 1) := by decide +kernel
theorem dX1_find_86 : decode cX1_find 86 = .ok (.iload_n 2, 1) := by decide +kernel
theorem dX1_find_87 : decode cX1_find 87 = .ok (.iload 4, 2) := by decide +kernel
theorem dX1_find_89 : decode cX1_find 89 = .ok (.iload_n 3, 1) := by decide +kernel
theorem dX1_find_90 : decode cX1_find 90 = .ok (.iload_n 3, 1) := by decide +kernel
theorem dX1_find_91 : decode cX1_find 91 = .ok (.aload_n 0, 1) := by decide +kernel
theorem dX1_find_92 : decode cX1_find 92 = .ok (.invokevirtual 38, 3) := by decide +kernel
theorem dX1_find_95 : decode cX1_find 95 = .ok (.if_icmp .ge 8, 3) := by decide +kernel
theorem dX1_find_98 : decode cX1_find 98 = .ok (.iload 6, 2) := by decide +kernel
theorem dX1_find_100 : decode cX1_find 100 = .ok (.goto 5, 3) := by decide +kernel
theorem dX1_find_103 : decode cX1_find 103 = .ok (.iload 5, 2) := by decide +kernel
theorem dX1_find_105 : decode cX1_find 105 = .ok (.invokevirtual 59, 3) := by decide +kernel
theorem dX1_find_108 : decode cX1_find 108 = .ok (.ifCond .eq 74, 3) := by decide +kernel
theorem dX1_find_111 : decode cX1_find 111 = .ok (.aload_n 0, 1) := by decide +kernel
theorem dX1_find_112 : decode cX1_find 112 = .ok (.getfield 7, 3) := by decide +kernel
theorem dX1_find_115 : decode cX1_find 115 = .ok (.bipush 64, 2) := by decide +kernel
theorem dX1_find_117 : decode cX1_find 117 = .ok (.iload_n 2, 1) := by decide +kernel
theorem dX1_find_118 : decode cX1_find 118 = .ok (.imul, 1) := by decide +kernel
theorem dX1_find_119 : decode cX1_find 119 = .ok (.iload_n 1, 1) := by decide +kernel
theorem dX1_find_120 : decode cX1_find 120 = .ok (.iadd, 1) := by decide +kernel
theorem dX1_find_121 : decode cX1_find 121 = .ok (.iload_n 2, 1) := by decide +kernel
theorem dX1_find_122 : decode cX1_find 122 = .ok (.aload_n 0, 1) := by decide +kernel
theorem dX1_find_123 : decode cX1_find 123 = .ok (.invokevirtual 38, 3) := by decide +kernel
theorem dX1_find_126 : decode cX1_find 126 = .ok (.if_icmp .ge 8, 3) := by decide +kernel
theorem dX1_find_129 : decode cX1_find 129 = .ok (.iload 4, 2) := by decide +kernel
theorem dX1_find_131 : decode cX1_find 131 = .ok (.goto 14, 3) := by decide +kernel
theorem dX1_find_134 : decode cX1_find 134 = .ok (.aload_n 0, 1) := by decide +kernel
theorem dX1_find_135 : decode cX1_find 135 = .ok (.getfield 7, 3) := by decide +kernel
theorem dX1_find_138 : decode cX1_find 138 = .ok (.bipush 64, 2) := by decide +kernel
theorem dX1_find_140 : decode cX1_find 140 = .ok (.iload_n 2, 1) := by decide +kernel
theorem dX1_find_141 : decode cX1_find 141 = .ok (.imul, 1) := by decide +kernel
theorem dX1_find_142 : decode cX1_find 142 = .ok (.iload_n 1, 1) := by decide +kernel
theorem dX1_find_143 : decode cX1_find 143 = .ok (.iadd, 1) := by decide +kernel
theorem dX1_find_144 : decode cX1_find 144 = .ok (.iaload, 1) := by decide +kernel
theorem dX1_find_145 : decode cX1_find 145 = .ok (.iastore, 1) := by decide +kernel
theorem dX1_find_146 : decode cX1_find 146 = .ok (.aload_n 0, 1) := by decide +kernel
theorem dX1_find_147 : decode cX1_find 147 = .ok (.getfield 7, 3) := by decide +kernel
theorem dX1_find_150 : decode cX1_find 150 = .ok (.bipush 64, 2) := by decide +kernel
theorem dX1_find_152 : decode cX1_find 152 = .ok (.iload_n 3, 1) := by decide +kernel
theorem dX1_find_153 : decode cX1_find 153 = .ok (.imul, 1) := by decide +kernel
theorem dX1_find_154 : decode cX1_find 154 = .ok (.iload_n 1, 1) := by decide +kernel
theorem dX1_find_155 : decode cX1_find 155 = .ok (.iadd, 1) := by decide +kernel
theorem dX1_find_156 : decode cX1_find 156 = .ok (.iload_n 3, 1) := by decide +kernel
theorem dX1_find_157 : decode cX1_find 157 = .ok (.aload_n 0, 1) := by decide +kernel
theorem dX1_find_158 : decode cX1_find 158 = .ok (.invokevirtual 38, 3) := by decide +kernel
theorem dX1_find_161 : decode cX1_find 161 = .ok (.if_icmp .ge 8, 3) := by decide +kernel
theorem dX1_find_164 : decode cX1_find 164 = .ok (.iload 6, 2) := by decide +kernel
theorem dX1_find_166 : decode cX1_find 166 = .ok (.goto 14, 3) := by decide +kernel
theorem dX1_find_169 : decode cX1_find 169 = .ok (.aload_n 0, 1) := by decide +kernel
theorem dX1_find_170 : decode cX1_find 170 = .ok (.getfield 7, 3) := by decide +kernel
theorem dX1_find_173 : decode cX1_find 173 = .ok (.bipush 64, 2) := by decide +kernel
theorem dX1_find_175 : decode cX1_find 175 = .ok (.iload_n 3, 1) := by decide +kernel
theorem dX1_find_176 : decode cX1_find 176 = .ok (.imul, 1) := by decide +kernel
theorem dX1_find_177 : decode cX1_find 177 = .ok (.iload_n 1, 1) := by decide +kernel
theorem dX1_find_178 : decode cX1_find 178 = .ok (.iadd, 1) := by decide +kernel
theorem dX1_find_179 : decode cX1_find 179 = .ok (.iaload, 1) := by decide +kernel
theorem dX1_find_180 : decode cX1_find 180 = .ok (.iastore, 1) := by decide +kernel
theorem dX1_find_181 : decode cX1_find 181 = .ok (.return_, 1) := by decide +kernel
theorem dX1_find_182 : decode cX1_find 182 = .ok (.iload_n 3, 1) := by decide +kernel
theorem dX1_find_183 : decode cX1_find 183 = .ok (.aload_n 0, 1) := by decide +kernel
theorem dX1_find_184 : decode cX1_find 184 = .ok (.invokevirtual 38, 3) := by decide +kernel
theorem dX1_find_187 : decode cX1_find 187 = .ok (.if_icmp .ge 6, 3) := by decide +kernel
theorem dX1_find_190 : decode cX1_find 190 = .ok (.goto 9, 3) := by decide +kernel
theorem dX1_find_193 : decode cX1_find 193 = .ok (.iinc 5 1, 3) := by decide +kernel
theorem dX1_find_196 : decode cX1_find 196 = .ok (.goto (-170), 3) := by decide +kernel
theorem dX1_find_199 : decode cX1_find 199 = .ok (.iinc 4 1, 3) := by decide +kernel
theorem dX1_find_202 : decode cX1_find 202 = .ok (.goto (-199), 3) := by decide +kernel
theorem dX1_find_205 : decode cX1_find 205 = .ok (.return_, 1) := by decide +kernel
set_option maxRecDepth 20000 in
theorem ggX1_mend_X1_manyLost : GoodIn wsX1_mend wsX1_manyLost := goodIn_r _ [9, 2, 3, 42, 43, 44, 45] (by decide +kernel) (by decide +kernel)
set_option maxRecDepth 20000 in
theorem gX1_mend_X1_manyLost : GoodIn wsX1_mend (wsV RX1 52 RX1 yX1_manyLost wsX1_manyLost) := goodIn_app (goodIn_of _ (by decide +kernel)) ggX1_mend_X1_manyLost
set_option maxRecDepth 20000 in
theorem ggX1_mend_X1_lowest : GoodIn wsX1_mend wsX1_lowest := goodIn_r _ [13, 2, 3, 42, 43, 44, 45] (by decide +kernel) (by decide +kernel)
set_option maxRecDepth 20000 in
theorem gX1_mend_X1_lowest : GoodIn wsX1_mend (wsV RX1 63 RX1 yX1_lowest wsX1_lowest) := goodIn_app (goodIn_of _ (by decide +kernel)) ggX1_mend_X1_lowest
set_option maxRecDepth 20000 in
theorem ggX1_mend_X1_p : GoodIn wsX1_mend wsX1_p := goodIn_r _ [17, 2, 42, 43, 44, 45] (by decide +kernel) (by decide +kernel)
set_option maxRecDepth 20000 in
theorem gX1_mend_X1_p : GoodIn wsX1_mend (wsV RX1 38 RX1 yX1_p wsX1_p) := goodIn_app (goodIn_of _ (by decide +kernel)) ggX1_mend_X1_p
set_option maxRecDepth 20000 in
theorem ggX1_mend_X1_find : GoodIn wsX1_mend wsX1_find := goodIn_r _ [21, 4, 14, 15, 16, 8, 17, 2, 22, 23, 24, 25, 3, 26, 27, 28, 29, 30, 31, 32, 33, 34, 35, 36, 37, 38, 39, 40, 41, 42, 43, 44, 45] (by decide +kernel) (by decide +kernel)
set_option maxRecDepth 20000 in
theorem gX1_mend_X1_find : GoodIn wsX1_mend (wsV RX1 66 RX1 yX1_find wsX1_find) := goodIn_app (goodIn_of _ (by decide +kernel)) ggX1_mend_X1_find
set_option maxRecDepth 20000 in
theorem ggX1_mend_X1_sumAt : GoodIn wsX1_mend wsX1_sumAt := goodIn_r _ [25, 3, 4, 14, 15, 16, 8, 17, 2, 26, 27, 28, 29, 30, 31, 32, 33, 42, 43, 44, 45] (by decide +kernel) (by decide +kernel)
set_option maxRecDepth 20000 in
theorem gX1_mend_X1_sumAt : GoodIn wsX1_mend (wsV RX1 55 RX1 yX1_sumAt wsX1_sumAt) := goodIn_app (goodIn_of _ (by decide +kernel)) ggX1_mend_X1_sumAt
set_option maxRecDepth 20000 in
theorem ggX1_mend_X1_q : GoodIn wsX1_mend wsX1_q := goodIn_r _ [41, 2, 42, 43, 44, 45] (by decide +kernel) (by decide +kernel)
set_option maxRecDepth 20000 in
theorem gX1_mend_X1_q : GoodIn wsX1_mend (wsV RX1 44 RX1 yX1_q wsX1_q) := goodIn_app (goodIn_of _ (by decide +kernel)) ggX1_mend_X1_q
theorem dX1_mend_0 : decode cX1_mend 0 = .ok (.aload_n 0, 1) := by decide +kernel
theorem dX1_mend_1 : decode cX1_mend 1 = .ok (.iconst 0, 1) := by decide +kernel
theorem dX1_mend_2 : decode cX1_mend 2 = .ok (.putfield 21, 3) := by decide +kernel
theorem dX1_mend_5 : decode cX1_mend 5 = .ok (.aload_n 0, 1) := by decide +kernel
theorem dX1_mend_6 : decode cX1_mend 6 = .ok (.invokevirtual 52, 3) := by decide +kernel
theorem dX1_mend_9 : decode cX1_mend 9 = .ok (.istore_n 1, 1) := by decide +kernel
theorem dX1_mend_10 : decode cX1_mend 10 = .ok (.aload_n 0, 1) := by decide +kernel
theorem dX1_mend_11 : decode cX1_mend 11 = .ok (.iconst 0, 1) := by decide +kernel
theorem dX1_mend_12 : decode cX1_mend 12 = .ok (.invokevirtual 63, 3) := by decide +kernel
theorem dX1_mend_15 : decode cX1_mend 15 = .ok (.istore_n 2, 1) := by decide +kernel
theorem dX1_mend_16 : decode cX1_mend 16 = .ok (.iload_n 2, 1) := by decide +kernel
theorem dX1_mend_17 : decode cX1_mend 17 = .ok (.aload_n 0, 1) := by decide +kernel
theorem dX1_mend_18 : decode cX1_mend 18 = .ok (.getfield 25, 3) := by decide +kernel
theorem dX1_mend_21 : decode cX1_mend 21 = .ok (.if_icmp .ge 13, 3) := by decide +kernel
theorem dX1_mend_24 : decode cX1_mend 24 = .ok (.aload_n 0, 1) := by decide +kernel
theorem dX1_mend_25 : decode cX1_mend 25 = .ok (.iload_n 2, 1) := by decide +kernel
theorem dX1_mend_26 : decode cX1_mend 26 = .ok (.iconst 1, 1) := by decide +kernel
theorem dX1_mend_27 : decode cX1_mend 27 = .ok (.iadd, 1) := by decide +kernel
theorem dX1_mend_28 : decode cX1_mend 28 = .ok (.invokevirtual 63, 3) := by decide +kernel
theorem dX1_mend_31 : decode cX1_mend 31 = .ok (.goto 7, 3) := by decide +kernel
theorem dX1_mend_34 : decode cX1_mend 34 = .ok (.aload_n 0, 1) := by decide +kernel
theorem dX1_mend_35 : decode cX1_mend 35 = .ok (.getfield 25, 3) := by decide +kernel
theorem dX1_mend_38 : decode cX1_mend 38 = .ok (.istore_n 3, 1) := by decide +kernel
theorem dX1_mend_39 : decode cX1_mend 39 = .ok (.iload_n 2, 1) := by decide +kernel
theorem dX1_mend_40 : decode cX1_mend 40 = .ok (.aload_n 0, 1) := by decide +kernel
theorem dX1_mend_41 : decode cX1_mend 41 = .ok (.invokevirtual 38, 3) := by decide +kernel
theorem dX1_mend_44 : decode cX1_mend 44 = .ok (.if_icmp .ge 7, 3) := by decide +kernel
theorem dX1_mend_47 : decode cX1_mend 47 = .ok (.iload_n 2, 1) := by decide +kernel
theorem dX1_mend_48 : decode cX1_mend 48 = .ok (.goto 7, 3) := by decide +kernel
theorem dX1_mend_51 : decode cX1_mend 51 = .ok (.aload_n 0, 1) := by decide +kernel
theorem dX1_mend_52 : decode cX1_mend 52 = .ok (.invokevirtual 38, 3) := by decide +kernel
theorem dX1_mend_55 : decode cX1_mend 55 = .ok (.istore 4, 2) := by decide +kernel
theorem dX1_mend_57 : decode cX1_mend 57 = .ok (.iload_n 3, 1) := by decide +kernel
theorem dX1_mend_58 : decode cX1_mend 58 = .ok (.aload_n 0, 1) := by decide +kernel
theorem dX1_mend_59 : decode cX1_mend 59 = .ok (.invokevirtual 38, 3) := by decide +kernel
theorem dX1_mend_62 : decode cX1_mend 62 = .ok (.if_icmp .ge 7, 3) := by decide +kernel
theorem dX1_mend_65 : decode cX1_mend 65 = .ok (.iload_n 3, 1) := by decide +kernel
theorem dX1_mend_66 : decode cX1_mend 66 = .ok (.goto 7, 3) := by decide +kernel
theorem dX1_mend_69 : decode cX1_mend 69 = .ok (.aload_n 0, 1) := by decide +kernel
theorem dX1_mend_70 : decode cX1_mend 70 = .ok (.invokevirtual 38, 3) := by decide +kernel
theorem dX1_mend_73 : decode cX1_mend 73 = .ok (.istore 5, 2) := by decide +kernel
theorem dX1_mend_75 : decode cX1_mend 75 = .ok (.iconst 0, 1) := by decide +kernel
theorem dX1_mend_76 : decode cX1_mend 76 = .ok (.istore 6, 2) := by decide +kernel
theorem dX1_mend_78 : decode cX1_mend 78 = .ok (.iload 6, 2) := by decide +kernel
theorem dX1_mend_80 : decode cX1_mend 80 = .ok (.bipush 64, 2) := by decide +kernel
theorem dX1_mend_82 : decode cX1_mend 82 = .ok (.if_icmp .ge 28, 3) := by decide +kernel
theorem dX1_mend_85 : decode cX1_mend 85 = .ok (.iload 4, 2) := by decide +kernel
theorem dX1_mend_87 : decode cX1_mend 87 = .ok (.aload_n 0, 1) := by decide +kernel
theorem dX1_mend_88 : decode cX1_mend 88 = .ok (.invokevirtual 38, 3) := by decide +kernel
theorem dX1_mend_91 : decode cX1_mend 91 = .ok (.if_icmp .ge 19, 3) := by decide +kernel
theorem dX1_mend_94 : decode cX1_mend 94 = .ok (.aload_n 0, 1) := by decide +kernel
theorem dX1_mend_95 : decode cX1_mend 95 = .ok (.iload 6, 2) := by decide +kernel
theorem dX1_mend_97 : decode cX1_mend 97 = .ok (.iload 4, 2) := by decide +kernel
theorem dX1_mend_99 : decode cX1_mend 99 = .ok (.iload 5, 2) := by decide +kernel
theorem dX1_mend_101 : decode cX1_mend 101 = .ok (.invokevirtual 66, 3) := by decide +kernel
theorem dX1_mend_104 : decode cX1_mend 104 = .ok (.iinc 6 1, 3) := by decide +kernel
theorem dX1_mend_107 : decode cX1_mend 107 = .ok (.goto (-29), 3) := by decide +kernel
theorem dX1_mend_110 : decode cX1_mend 110 = .ok (.iconst 0, 1) := by decide +kernel
theorem dX1_mend_111 : decode cX1_mend 111 = .ok (.istore 6, 2) := by decide +kernel
theorem dX1_mend_113 : decode cX1_mend 113 = .ok (.iload 6, 2) := by decide +kernel
theorem dX1_mend_115 : decode cX1_mend 115 = .ok (.aload_n 0, 1) := by decide +kernel
theorem dX1_mend_116 : decode cX1_mend 116 = .ok (.invokevirtual 38, 3) := by decide +kernel
theorem dX1_mend_119 : decode cX1_mend 119 = .ok (.if_icmp .ge 17, 3) := by decide +kernel
theorem dX1_mend_122 : decode cX1_mend 122 = .ok (.aload_n 0, 1) := by decide +kernel
theorem dX1_mend_123 : decode cX1_mend 123 = .ok (.getfield 13, 3) := by decide +kernel
theorem dX1_mend_126 : decode cX1_mend 126 = .ok (.iload 6, 2) := by decide +kernel
theorem dX1_mend_128 : decode cX1_mend 128 = .ok (.iconst 0, 1) := by decide +kernel
theorem dX1_mend_129 : decode cX1_mend 129 = .ok (.bastore, 1) := by decide +kernel
theorem dX1_mend_130 : decode cX1_mend 130 = .ok (.iinc 6 1, 3) := by decide +kernel
theorem dX1_mend_133 : decode cX1_mend 133 = .ok (.goto (-20), 3) := by decide +kernel
theorem dX1_mend_136 : decode cX1_mend 136 = .ok (.iconst 0, 1) := by decide +kernel
theorem dX1_mend_137 : decode cX1_mend 137 = .ok (.istore 6, 2) := by decide +kernel
theorem dX1_mend_139 : decode cX1_mend 139 = .ok (.iload 6, 2) := by decide +kernel
theorem dX1_mend_141 : decode cX1_mend 141 = .ok (.bipush 64, 2) := by decide +kernel
theorem dX1_mend_143 : decode cX1_mend 143 = .ok (.if_icmp .ge 113, 3) := by decide +kernel
theorem dX1_mend_146 : decode cX1_mend 146 = .ok (.aload_n 0, 1) := by decide +kernel
theorem dX1_mend_147 : decode cX1_mend 147 = .ok (.getfield 7, 3) := by decide +kernel
theorem dX1_mend_150 : decode cX1_mend 150 = .ok (.bipush 64, 2) := by decide +kernel
theorem dX1_mend_152 : decode cX1_mend 152 = .ok (.aload_n 0, 1) := by decide +kernel
theorem dX1_mend_153 : decode cX1_mend 153 = .ok (.invokevirtual 38, 3) := by decide +kernel
theorem dX1_mend_156 : decode cX1_mend 156 = .ok (.imul, 1) := by decide +kernel
theorem dX1_mend_157 : decode cX1_mend 157 = .ok (.iload 6, 2) := by decide +kernel
theorem dX1_mend_159 : decode cX1_mend 159 = .ok (.iadd, 1) := by decide +kernel
theorem dX1_mend_160 : decode cX1_mend 160 = .ok (.aload_n 0, 1) := by decide +kernel
theorem dX1_mend_161 : decode cX1_mend 161 = .ok (.getfield 13, 3) := by decide +kernel
theorem dX1_mend_164 : decode cX1_mend 164 = .ok (.aload_n 0, 1) := by decide +kernel
theorem dX1_mend_165 : decode cX1_mend 165 = .ok (.invokevirtual 38, 3) := by decide +kernel
theorem dX1_mend_168 : decode cX1_mend 168 = .ok (.baload, 1) := by decide +kernel
theorem dX1_mend_169 : decode cX1_mend 169 = .ok (.ifCond .eq 13, 3) := by decide +kernel
theorem dX1_mend_172 : decode cX1_mend 172 = .ok (.aload_n 0, 1) := by decide +kernel
theorem dX1_mend_173 : decode cX1_mend 173 = .ok (.iload 6, 2) := by decide +kernel
theorem dX1_mend_175 : decode cX1_mend 175 = .ok (.iconst 0, 1) := by decide +kernel
theorem dX1_mend_176 : decode cX1_mend 176 = .ok (.invokevirtual 55, 3) := by decide +kernel
theorem dX1_mend_179 : decode cX1_mend 179 = .ok (.goto 18, 3) := by decide +kernel
theorem dX1_mend_182 : decode cX1_mend 182 = .ok (.aload_n 0, 1) := by decide +kernel
theorem dX1_mend_183 : decode cX1_mend 183 = .ok (.getfield 7, 3) := by decide +kernel
theorem dX1_mend_186 : decode cX1_mend 186 = .ok (.bipush 64, 2) := by decide +kernel
theorem dX1_mend_188 : decode cX1_mend 188 = .ok (.aload_n 0, 1) := by decide +kernel
theorem dX1_mend_189 : decode cX1_mend 189 = .ok (.invokevirtual 38, 3) := by decide +kernel
theorem dX1_mend_192 : decode cX1_mend 192 = .ok (.imul, 1) := by decide +kernel
theorem dX1_mend_193 : decode cX1_mend 193 = .ok (.iload 6, 2) := by decide +kernel
theorem dX1_mend_195 : decode cX1_mend 195 = .ok (.iadd, 1) := by decide +kernel
theorem dX1_mend_196 : decode cX1_mend 196 = .ok (.iaload, 1) := by decide +kernel
theorem dX1_mend_197 : decode cX1_mend 197 = .ok (.iastore, 1) := by decide +kernel
theorem dX1_mend_198 : decode cX1_mend 198 = .ok (.aload_n 0, 1) := by decide +kernel
theorem dX1_mend_199 : decode cX1_mend 199 = .ok (.getfield 7, 3) := by decide +kernel
theorem dX1_mend_202 : decode cX1_mend 202 = .ok (.bipush 64, 2) := by decide +kernel
theorem dX1_mend_204 : decode cX1_mend 204 = .ok (.aload_n 0, 1) := by decide +kernel
theorem dX1_mend_205 : decode cX1_mend 205 = .ok (.invokevirtual 44, 3) := by decide +kernel
theorem dX1_mend_208 : decode cX1_mend 208 = .ok (.imul, 1) := by decide +kernel
theorem dX1_mend_209 : decode cX1_mend 209 = .ok (.iload 6, 2) := by decide +kernel
theorem dX1_mend_211 : decode cX1_mend 211 = .ok (.iadd, 1) := by decide +kernel
theorem dX1_mend_212 : decode cX1_mend 212 = .ok (.aload_n 0, 1) := by decide +kernel
theorem dX1_mend_213 : decode cX1_mend 213 = .ok (.getfield 13, 3) := by decide +kernel
theorem dX1_mend_216 : decode cX1_mend 216 = .ok (.aload_n 0, 1) := by decide +kernel
theorem dX1_mend_217 : decode cX1_mend 217 = .ok (.invokevirtual 44, 3) := by decide +kernel
theorem dX1_mend_220 : decode cX1_mend 220 = .ok (.baload, 1) := by decide +kernel
theorem dX1_mend_221 : decode cX1_mend 221 = .ok (.ifCond .eq 13, 3) := by decide +kernel
theorem dX1_mend_224 : decode cX1_mend 224 = .ok (.aload_n 0, 1) := by decide +kernel
theorem dX1_mend_225 : decode cX1_mend 225 = .ok (.iload 6, 2) := by decide +kernel
theorem dX1_mend_227 : decode cX1_mend 227 = .ok (.iconst 1, 1) := by decide +kernel
theorem dX1_mend_228 : decode cX1_mend 228 = .ok (.invokevirtual 55, 3) := by decide +kernel
theorem dX1_mend_231 : decode cX1_mend 231 = .ok (.goto 18, 3) := by decide +kernel
theorem dX1_mend_234 : decode cX1_mend 234 = .ok (.aload_n 0, 1) := by decide +kernel
theorem dX1_mend_235 : decode cX1_mend 235 = .ok (.getfield 7, 3) := by decide +kernel
theorem dX1_mend_238 : decode cX1_mend 238 = .ok (.bipush 64, 2) := by decide +kernel
theorem dX1_mend_240 : decode cX1_mend 240 = .ok (.aload_n 0, 1) := by decide +kernel
theorem dX1_mend_241 : decode cX1_mend 241 = .ok (.invokevirtual 44, 3) := by decide +kernel
theorem dX1_mend_244 : decode cX1_mend 244 = .ok (.imul, 1) := by decide +kernel
theorem dX1_mend_245 : decode cX1_mend 245 = .ok (.iload 6, 2) := by decide +kernel
theorem dX1_mend_247 : decode cX1_mend 247 = .ok (.iadd, 1) := by decide +kernel
theorem dX1_mend_248 : decode cX1_mend 248 = .ok (.iaload, 1) := by decide +kernel
theorem dX1_mend_249 : decode cX1_mend 249 = .ok (.iastore, 1) := by decide +kernel
theorem dX1_mend_250 : decode cX1_mend 250 = .ok (.iinc 6 1, 3) := by decide +kernel
theorem dX1_mend_253 : decode cX1_mend 253 = .ok (.goto (-114), 3) := by decide +kernel
theorem dX1_mend_256 : decode cX1_mend 256 = .ok (.aload_n 0, 1) := by decide +kernel
theorem dX1_mend_257 : decode cX1_mend 257 = .ok (.getfield 13, 3) := by decide +kernel
theorem dX1_mend_260 : decode cX1_mend 260 = .ok (.aload_n 0, 1) := by decide +kernel
theorem dX1_mend_261 : decode cX1_mend 261 = .ok (.invokevirtual 38, 3) := by decide +kernel
theorem dX1_mend_264 : decode cX1_mend 264 = .ok (.iconst 0, 1) := by decide +kernel
theorem dX1_mend_265 : decode cX1_mend 265 = .ok (.bastore, 1) := by decide +kernel
theorem dX1_mend_266 : decode cX1_mend 266 = .ok (.aload_n 0, 1) := by decide +kernel
theorem dX1_mend_267 : decode cX1_mend 267 = .ok (.getfield 13, 3) := by decide +kernel
theorem dX1_mend_270 : decode cX1_mend 270 = .ok (.aload_n 0, 1) := by decide +kernel
theorem dX1_mend_271 : decode cX1_mend 271 = .ok (.invokevirtual 44, 3) := by decide +kernel
theorem dX1_mend_274 : decode cX1_mend 274 = .ok (.iconst 0, 1) := by decide +kernel
theorem dX1_mend_275 : decode cX1_mend 275 = .ok (.bastore, 1) := by decide +kernel
theorem dX1_mend_276 : decode cX1_mend 276 = .ok (.iload_n 1, 1) := by decide +kernel
theorem dX1_mend_277 : decode cX1_mend 277 = .ok (.ireturn, 1) := by decide +kernel
set_option maxRecDepth 20000 in
theorem ggX1_off_X1_sumAt : GoodIn wsX1_off wsX1_sumAt := goodIn_r _ [6, 7, 1, 8, 9, 10, 5, 11, 12, 13, 14, 15, 16, 17, 18, 19, 20, 25, 26, 27, 28] (by decide +kernel) (by decide +kernel)
set_option maxRecDepth 20000 in
theorem gX1_off_X1_sumAt : GoodIn wsX1_off (wsV RX1 55 RX1 yX1_sumAt wsX1_sumAt) := goodIn_app (goodIn_of _ (by decide +kernel)) ggX1_off_X1_sumAt
set_option maxRecDepth 20000 in
theorem ggX1_off_X1_p : GoodIn wsX1_off wsX1_p := goodIn_r _ [11, 12, 25, 26, 27, 28] (by decide +kernel) (by decide +kernel)
set_option maxRecDepth 20000 in
theorem gX1_off_X1_p : GoodIn wsX1_off (wsV RX1 38 RX1 yX1_p wsX1_p) := goodIn_app (goodIn_of _ (by decide +kernel)) ggX1_off_X1_p
set_option maxRecDepth 20000 in
theorem ggX1_off_X1_q : GoodIn wsX1_off wsX1_q := goodIn_r _ [24, 12, 25, 26, 27, 28] (by decide +kernel) (by decide +kernel)
set_option maxRecDepth 20000 in
theorem gX1_off_X1_q : GoodIn wsX1_off (wsV RX1 44 RX1 yX1_q wsX1_q) := goodIn_app (goodIn_of _ (by decide +kernel)) ggX1_off_X1_q
set_option maxRecDepth 20000 in
theorem ggX1_off_X1_twos : GoodIn wsX1_off wsX1_twos := goodIn_r _ [16, 17, 18, 19, 5, 20] (by decide +kernel) (by decide +kernel)
set_option maxRecDepth 20000 in
theorem gX1_off_X1_twos : GoodIn wsX1_off (wsV RX1 35 RX1 yX1_twos wsX1_twos) := goodIn_app (goodIn_of _ (by decide +kernel)) ggX1_off_X1_twos
set_option maxRecDepth 20000 in
theorem ggX1_off_X1_times : GoodIn wsX1_off wsX1_times := goodIn_r _ [20] (by decide +kernel) (by decide +kernel)
set_option maxRecDepth 20000 in
theorem gX1_off_X1_times : GoodIn wsX1_off (wsV RX1 28 RX1 yX1_times wsX1_times) := goodIn_app (goodIn_of _ (by decide +kernel)) ggX1_off_X1_times
theorem dX1_off_0 : decode cX1_off 0 = .ok (.iconst 1, 1) := by decide +kernel
theorem dX1_off_1 : decode cX1_off 1 = .ok (.istore_n 1, 1) := by decide +kernel
theorem dX1_off_2 : decode cX1_off 2 = .ok (.iconst 1, 1) := by decide +kernel
theorem dX1_off_3 : decode cX1_off 3 = .ok (.istore_n 2, 1) := by decide +kernel
theorem dX1_off_4 : decode cX1_off 4 = .ok (.iconst 0, 1) := by decide +kernel
theorem dX1_off_5 : decode cX1_off 5 = .ok (.istore_n 3, 1) := by decide +kernel
theorem dX1_off_6 : decode cX1_off 6 = .ok (.iload_n 3, 1) := by decide +kernel
theorem dX1_off_7 : decode cX1_off 7 = .ok (.bipush 64, 2) := by decide +kernel
theorem dX1_off_9 : decode cX1_off 9 = .ok (.if_icmp .ge 75, 3) := by decide +kernel
theorem dX1_off_12 : decode cX1_off 12 = .ok (.iload_n 1, 1) := by decide +kernel
theorem dX1_off_13 : decode cX1_off 13 = .ok (.ifCond .eq 30, 3) := by decide +kernel
theorem dX1_off_16 : decode cX1_off 16 = .ok (.aload_n 0, 1) := by decide +kernel
theorem dX1_off_17 : decode cX1_off 17 = .ok (.iload_n 3, 1) := by decide +kernel
theorem dX1_off_18 : decode cX1_off 18 = .ok (.iconst 0, 1) := by decide +kernel
theorem dX1_off_19 : decode cX1_off 19 = .ok (.invokevirtual 55, 3) := by decide +kernel
theorem dX1_off_22 : decode cX1_off 22 = .ok (.aload_n 0, 1) := by decide +kernel
theorem dX1_off_23 : decode cX1_off 23 = .ok (.getfield 7, 3) := by decide +kernel
theorem dX1_off_26 : decode cX1_off 26 = .ok (.bipush 64, 2) := by decide +kernel
theorem dX1_off_28 : decode cX1_off 28 = .ok (.aload_n 0, 1) := by decide +kernel
theorem dX1_off_29 : decode cX1_off 29 = .ok (.invokevirtual 38, 3) := by decide +kernel
theorem dX1_off_32 : decode cX1_off 32 = .ok (.imul, 1) := by decide +kernel
theorem dX1_off_33 : decode cX1_off 33 = .ok (.iload_n 3, 1) := by decide +kernel
theorem dX1_off_34 : decode cX1_off 34 = .ok (.iadd, 1) := by decide +kernel
theorem dX1_off_35 : decode cX1_off 35 = .ok (.iaload, 1) := by decide +kernel
theorem dX1_off_36 : decode cX1_off 36 = .ok (.if_icmp .ne 7, 3) := by decide +kernel
theorem dX1_off_39 : decode cX1_off 39 = .ok (.iconst 1, 1) := by decide +kernel
theorem dX1_off_40 : decode cX1_off 40 = .ok (.goto 4, 3) := by decide +kernel
theorem dX1_off_43 : decode cX1_off 43 = .ok (.iconst 0, 1) := by decide +kernel
theorem dX1_off_44 : decode cX1_off 44 = .ok (.istore_n 1, 1) := by decide +kernel
theorem dX1_off_45 : decode cX1_off 45 = .ok (.iload_n 2, 1) := by decide +kernel
theorem dX1_off_46 : decode cX1_off 46 = .ok (.ifCond .eq 30, 3) := by decide +kernel
theorem dX1_off_49 : decode cX1_off 49 = .ok (.aload_n 0, 1) := by decide +kernel
theorem dX1_off_50 : decode cX1_off 50 = .ok (.iload_n 3, 1) := by decide +kernel
theorem dX1_off_51 : decode cX1_off 51 = .ok (.iconst 1, 1) := by decide +kernel
theorem dX1_off_52 : decode cX1_off 52 = .ok (.invokevirtual 55, 3) := by decide +kernel
theorem dX1_off_55 : decode cX1_off 55 = .ok (.aload_n 0, 1) := by decide +kernel
theorem dX1_off_56 : decode cX1_off 56 = .ok (.getfield 7, 3) := by decide +kernel
theorem dX1_off_59 : decode cX1_off 59 = .ok (.bipush 64, 2) := by decide +kernel
theorem dX1_off_61 : decode cX1_off 61 = .ok (.aload_n 0, 1) := by decide +kernel
theorem dX1_off_62 : decode cX1_off 62 = .ok (.invokevirtual 44, 3) := by decide +kernel
theorem dX1_off_65 : decode cX1_off 65 = .ok (.imul, 1) := by decide +kernel
theorem dX1_off_66 : decode cX1_off 66 = .ok (.iload_n 3, 1) := by decide +kernel
theorem dX1_off_67 : decode cX1_off 67 = .ok (.iadd, 1) := by decide +kernel
theorem dX1_off_68 : decode cX1_off 68 = .ok (.iaload, 1) := by decide +kernel
theorem dX1_off_69 : decode cX1_off 69 = .ok (.if_icmp .ne 7, 3) := by decide +kernel
theorem dX1_off_72 : decode cX1_off 72 = .ok (.iconst 1, 1) := by decide +kernel
theorem dX1_off_73 : decode cX1_off 73 = .ok (.goto 4, 3) := by decide +kernel
theorem dX1_off_76 : decode cX1_off 76 = .ok (.iconst 0, 1) := by decide +kernel
theorem dX1_off_77 : decode cX1_off 77 = .ok (.istore_n 2, 1) := by decide +kernel
theorem dX1_off_78 : decode cX1_off 78 = .ok (.iinc 3 1, 3) := by decide +kernel
theorem dX1_off_81 : decode cX1_off 81 = .ok (.goto (-75), 3) := by decide +kernel
theorem dX1_off_84 : decode cX1_off 84 = .ok (.iload_n 1, 1) := by decide +kernel
theorem dX1_off_85 : decode cX1_off 85 = .ok (.ifCond .ne 7, 3) := by decide +kernel
theorem dX1_off_88 : decode cX1_off 88 = .ok (.iload_n 2, 1) := by decide +kernel
theorem dX1_off_89 : decode cX1_off 89 = .ok (.ifCond .eq 32, 3) := by decide +kernel
theorem dX1_off_92 : decode cX1_off 92 = .ok (.iload_n 1, 1) := by decide +kernel
theorem dX1_off_93 : decode cX1_off 93 = .ok (.ifCond .eq 12, 3) := by decide +kernel
theorem dX1_off_96 : decode cX1_off 96 = .ok (.iload_n 2, 1) := by decide +kernel
theorem dX1_off_97 : decode cX1_off 97 = .ok (.ifCond .eq 8, 3) := by decide +kernel
theorem dX1_off_100 : decode cX1_off 100 = .ok (.bipush (-2), 2) := by decide +kernel
theorem dX1_off_102 : decode cX1_off 102 = .ok (.goto 18, 3) := by decide +kernel
theorem dX1_off_105 : decode cX1_off 105 = .ok (.iload_n 1, 1) := by decide +kernel
theorem dX1_off_106 : decode cX1_off 106 = .ok (.ifCond .eq 10, 3) := by decide +kernel
theorem dX1_off_109 : decode cX1_off 109 = .ok (.aload_n 0, 1) := by decide +kernel
theorem dX1_off_110 : decode cX1_off 110 = .ok (.invokevirtual 44, 3) := by decide +kernel
theorem dX1_off_113 : decode cX1_off 113 = .ok (.goto 7, 3) := by decide +kernel
theorem dX1_off_116 : decode cX1_off 116 = .ok (.aload_n 0, 1) := by decide +kernel
theorem dX1_off_117 : decode cX1_off 117 = .ok (.invokevirtual 38, 3) := by decide +kernel
theorem dX1_off_120 : decode cX1_off 120 = .ok (.ireturn, 1) := by decide +kernel
theorem dX1_off_121 : decode cX1_off 121 = .ok (.iconst 0, 1) := by decide +kernel
theorem dX1_off_122 : decode cX1_off 122 = .ok (.istore_n 3, 1) := by decide +kernel
theorem dX1_off_123 : decode cX1_off 123 = .ok (.iload_n 3, 1) := by decide +kernel
theorem dX1_off_124 : decode cX1_off 124 = .ok (.aload_n 0, 1) := by decide +kernel
theorem dX1_off_125 : decode cX1_off 125 = .ok (.invokevirtual 38, 3) := by decide +kernel
theorem dX1_off_128 : decode cX1_off 128 = .ok (.if_icmp .ge 109, 3) := by decide +kernel
theorem dX1_off_131 : decode cX1_off 131 = .ok (.iconst 1, 1) := by decide +kernel
theorem dX1_off_132 : decode cX1_off 132 = .ok (.istore 4, 2) := by decide +kernel
theorem dX1_off_134 : decode cX1_off 134 = .ok (.iconst 0, 1) := by decide +kernel
theorem dX1_off_135 : decode cX1_off 135 = .ok (.istore 5, 2) := by decide +kernel
theorem dX1_off_137 : decode cX1_off 137 = .ok (.iload 5, 2) := by decide +kernel
theorem dX1_off_139 : decode cX1_off 139 = .ok (.bipush 64, 2) := by decide +kernel
theorem dX1_off_141 : decode cX1_off 141 = .ok (.if_icmp .ge 83, 3) := by decide +kernel
theorem dX1_off_144 : decode cX1_off 144 = .ok (.iload 4, 2) := by decide +kernel
theorem dX1_off_146 : decode cX1_off 146 = .ok (.ifCond .eq 78, 3) := by decide +kernel
theorem dX1_off_149 : decode cX1_off 149 = .ok (.aload_n 0, 1) := by decide +kernel
theorem dX1_off_150 : decode cX1_off 150 = .ok (.iload 5, 2) := by decide +kernel
theorem dX1_off_152 : decode cX1_off 152 = .ok (.iconst 0, 1) := by decide +kernel
theorem dX1_off_153 : decode cX1_off 153 = .ok (.invokevirtual 55, 3) := by decide +kernel
theorem dX1_off_156 : decode cX1_off 156 = .ok (.aload_n 0, 1) := by decide +kernel
theorem dX1_off_157 : decode cX1_off 157 = .ok (.getfield 7, 3) := by decide +kernel
theorem dX1_off_160 : decode cX1_off 160 = .ok (.bipush 64, 2) := by decide +kernel
theorem dX1_off_162 : decode cX1_off 162 = .ok (.aload_n 0, 1) := by decide +kernel
theorem dX1_off_163 : decode cX1_off 163 = .ok (.invokevirtual 38, 3) := by decide +kernel
theorem dX1_off_166 : decode cX1_off 166 = .ok (.imul, 1) := by decide +kernel
theorem dX1_off_167 : decode cX1_off 167 = .ok (.iload 5, 2) := by decide +kernel
theorem dX1_off_169 : decode cX1_off 169 = .ok (.iadd, 1) := by decide +kernel
theorem dX1_off_170 : decode cX1_off 170 = .ok (.iaload, 1) := by decide +kernel
theorem dX1_off_171 : decode cX1_off 171 = .ok (.ixor, 1) := by decide +kernel
theorem dX1_off_172 : decode cX1_off 172 = .ok (.istore 6, 2) := by decide +kernel
theorem dX1_off_174 : decode cX1_off 174 = .ok (.aload_n 0, 1) := by decide +kernel
theorem dX1_off_175 : decode cX1_off 175 = .ok (.iload 5, 2) := by decide +kernel
theorem dX1_off_177 : decode cX1_off 177 = .ok (.iconst 1, 1) := by decide +kernel
theorem dX1_off_178 : decode cX1_off 178 = .ok (.invokevirtual 55, 3) := by decide +kernel
theorem dX1_off_181 : decode cX1_off 181 = .ok (.aload_n 0, 1) := by decide +kernel
theorem dX1_off_182 : decode cX1_off 182 = .ok (.getfield 7, 3) := by decide +kernel
theorem dX1_off_185 : decode cX1_off 185 = .ok (.bipush 64, 2) := by decide +kernel
theorem dX1_off_187 : decode cX1_off 187 = .ok (.aload_n 0, 1) := by decide +kernel
theorem dX1_off_188 : decode cX1_off 188 = .ok (.invokevirtual 44, 3) := by decide +kernel
theorem dX1_off_191 : decode cX1_off 191 = .ok (.imul, 1) := by decide +kernel
theorem dX1_off_192 : decode cX1_off 192 = .ok (.iload 5, 2) := by decide +kernel
theorem dX1_off_194 : decode cX1_off 194 = .ok (.iadd, 1) := by decide +kernel
theorem dX1_off_195 : decode cX1_off 195 = .ok (.iaload, 1) := by decide +kernel
theorem dX1_off_196 : decode cX1_off 196 = .ok (.ixor, 1) := by decide +kernel
theorem dX1_off_197 : decode cX1_off 197 = .ok (.aload_n 0, 1) := by decide +kernel
theorem dX1_off_198 : decode cX1_off 198 = .ok (.iload 6, 2) := by decide +kernel
theorem dX1_off_200 : decode cX1_off 200 = .ok (.aload_n 0, 1) := by decide +kernel
theorem dX1_off_201 : decode cX1_off 201 = .ok (.iload_n 3, 1) := by decide +kernel
theorem dX1_off_202 : decode cX1_off 202 = .ok (.invokevirtual 35, 3) := by decide +kernel
theorem dX1_off_205 : decode cX1_off 205 = .ok (.invokevirtual 28, 3) := by decide +kernel
theorem dX1_off_208 : decode cX1_off 208 = .ok (.if_icmp .ne 7, 3) := by decide +kernel
theorem dX1_off_211 : decode cX1_off 211 = .ok (.iconst 1, 1) := by decide +kernel
theorem dX1_off_212 : decode cX1_off 212 = .ok (.goto 4, 3) := by decide +kernel
theorem dX1_off_215 : decode cX1_off 215 = .ok (.iconst 0, 1) := by decide +kernel
theorem dX1_off_216 : decode cX1_off 216 = .ok (.istore 4, 2) := by decide +kernel
theorem dX1_off_218 : decode cX1_off 218 = .ok (.iinc 5 1, 3) := by decide +kernel
theorem dX1_off_221 : decode cX1_off 221 = .ok (.goto (-84), 3) := by decide +kernel
theorem dX1_off_224 : decode cX1_off 224 = .ok (.iload 4, 2) := by decide +kernel
theorem dX1_off_226 : decode cX1_off 226 = .ok (.ifCond .eq 5, 3) := by decide +kernel
theorem dX1_off_229 : decode cX1_off 229 = .ok (.iload_n 3, 1) := by decide +kernel
theorem dX1_off_230 : decode cX1_off 230 = .ok (.ireturn, 1) := by decide +kernel
theorem dX1_off_231 : decode cX1_off 231 = .ok (.iinc 3 1, 3) := by decide +kernel
theorem dX1_off_234 : decode cX1_off 234 = .ok (.goto (-111), 3) := by decide +kernel
theorem dX1_off_237 : decode cX1_off 237 = .ok (.bipush (-3), 2) := by decide +kernel
theorem dX1_off_239 : decode cX1_off 239 = .ok (.ireturn, 1) := by decide +kernel
set_option maxRecDepth 20000 in
theorem ggX1_check_X1_manyLost : GoodIn wsX1_check wsX1_manyLost := goodIn_r _ [6, 7, 8, 34, 35, 36, 37] (by decide +kernel) (by decide +kernel)
set_option maxRecDepth 20000 in
theorem gX1_check_X1_manyLost : GoodIn wsX1_check (wsV RX1 52 RX1 yX1_manyLost wsX1_manyLost) := goodIn_app (goodIn_of _ (by decide +kernel)) ggX1_check_X1_manyLost
set_option maxRecDepth 20000 in
theorem ggX1_check_X1_off : GoodIn wsX1_check wsX1_off := goodIn_r _ [12, 13, 14, 15, 16, 5, 17, 8, 18, 19, 20, 21, 7, 22, 23, 24, 25, 26, 27, 28, 29, 30, 31, 32, 33, 34, 35, 36, 37] (by decide +kernel) (by decide +kernel)
set_option maxRecDepth 20000 in
theorem gX1_check_X1_off : GoodIn wsX1_check (wsV RX1 70 RX1 yX1_off wsX1_off) := goodIn_app (goodIn_of _ (by decide +kernel)) ggX1_check_X1_off
theorem dX1_check_0 : decode cX1_check 0 = .ok (.aload_n 0, 1) := by decide +kernel
theorem dX1_check_1 : decode cX1_check 1 = .ok (.iconst 0, 1) := by decide +kernel
theorem dX1_check_2 : decode cX1_check 2 = .ok (.putfield 21, 3) := by decide +kernel
theorem dX1_check_5 : decode cX1_check 5 = .ok (.aload_n 0, 1) := by decide +kernel
theorem dX1_check_6 : decode cX1_check 6 = .ok (.invokevirtual 52, 3) := by decide +kernel
theorem dX1_check_9 : decode cX1_check 9 = .ok (.ifCond .le 7, 3) := by decide +kernel
theorem dX1_check_12 : decode cX1_check 12 = .ok (.iconst (-1), 1) := by decide +kernel
theorem dX1_check_13 : decode cX1_check 13 = .ok (.goto 7, 3) := by decide +kernel
theorem dX1_check_16 : decode cX1_check 16 = .ok (.aload_n 0, 1) := by decide +kernel
theorem dX1_check_17 : decode cX1_check 17 = .ok (.invokevirtual 70, 3) := by decide +kernel
theorem dX1_check_20 : decode cX1_check 20 = .ok (.ireturn, 1) := by decide +kernel
set_option maxRecDepth 20000 in
theorem ggX1_fix_X1_manyLost : GoodIn wsX1_fix wsX1_manyLost := goodIn_r _ [7, 8, 2, 50, 51, 52, 53] (by decide +kernel) (by decide +kernel)
set_option maxRecDepth 20000 in
theorem gX1_fix_X1_manyLost : GoodIn wsX1_fix (wsV RX1 52 RX1 yX1_manyLost wsX1_manyLost) := goodIn_app (goodIn_of _ (by decide +kernel)) ggX1_fix_X1_manyLost
