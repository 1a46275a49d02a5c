theorem dX7_stop_11 : decode cX7_stop 11 = .ok (.iaload, 1) := by decide +kernel
theorem dX7_stop_12 : decode cX7_stop 12 = .ok (.iconst 1, 1) := by decide +kernel
theorem dX7_stop_13 : decode cX7_stop 13 = .ok (.if_icmp .ne 7, 3) := by decide +kernel
theorem dX7_stop_16 : decode cX7_stop 16 = .ok (.iconst 1, 1) := by decide +kernel
theorem dX7_stop_17 : decode cX7_stop 17 = .ok (.goto 4, 3) := by decide +kernel
theorem dX7_stop_20 : decode cX7_stop 20 = .ok (.iconst 0, 1) := by decide +kernel
theorem dX7_stop_21 : decode cX7_stop 21 = .ok (.istore_n 1, 1) := by decide +kernel
theorem dX7_stop_22 : decode cX7_stop 22 = .ok (.iload_n 1, 1) := by decide +kernel
theorem dX7_stop_23 : decode cX7_stop 23 = .ok (.ifCond .eq 9, 3) := by decide +kernel
theorem dX7_stop_26 : decode cX7_stop 26 = .ok (.aload_n 0, 1) := by decide +kernel
theorem dX7_stop_27 : decode cX7_stop 27 = .ok (.bipush 102, 2) := by decide +kernel
theorem dX7_stop_29 : decode cX7_stop 29 = .ok (.invokevirtual 57, 3) := by decide +kernel
theorem dX7_stop_32 : decode cX7_stop 32 = .ok (.aload_n 0, 1) := by decide +kernel
theorem dX7_stop_33 : decode cX7_stop 33 = .ok (.getfield 7, 3) := by decide +kernel
theorem dX7_stop_36 : decode cX7_stop 36 = .ok (.bipush 20, 2) := by decide +kernel
theorem dX7_stop_38 : decode cX7_stop 38 = .ok (.iconst 2, 1) := by decide +kernel
theorem dX7_stop_39 : decode cX7_stop 39 = .ok (.iastore, 1) := by decide +kernel
theorem dX7_stop_40 : decode cX7_stop 40 = .ok (.aload_n 0, 1) := by decide +kernel
theorem dX7_stop_41 : decode cX7_stop 41 = .ok (.getfield 7, 3) := by decide +kernel
theorem dX7_stop_44 : decode cX7_stop 44 = .ok (.bipush 9, 2) := by decide +kernel
theorem dX7_stop_46 : decode cX7_stop 46 = .ok (.iconst 0, 1) := by decide +kernel
theorem dX7_stop_47 : decode cX7_stop 47 = .ok (.iastore, 1) := by decide +kernel
theorem dX7_stop_48 : decode cX7_stop 48 = .ok (.iload_n 1, 1) := by decide +kernel
theorem dX7_stop_49 : decode cX7_stop 49 = .ok (.ireturn, 1) := by decide +kernel
set_option maxRecDepth 20000 in
theorem ggX7_feedLine_X7_limited : GoodIn wsX7_feedLine wsX7_limited := goodIn_r _ [8] (by decide +kernel) (by decide +kernel)
set_option maxRecDepth 20000 in
theorem gX7_feedLine_X7_limited : GoodIn wsX7_feedLine (va_wsS RX7 61 yX7_limited wsX7_limited) := goodIn_app (goodIn_of _ (by decide +kernel)) ggX7_feedLine_X7_limited
set_option maxRecDepth 20000 in
theorem ggX7_feedLine_X7_round : GoodIn wsX7_feedLine wsX7_round := goodIn_r _ [11, 12] (by decide +kernel) (by decide +kernel)
set_option maxRecDepth 20000 in
theorem gX7_feedLine_X7_round : GoodIn wsX7_feedLine (va_wsS RX7 43 yX7_round wsX7_round) := goodIn_app (goodIn_of _ (by decide +kernel)) ggX7_feedLine_X7_round
theorem dX7_feedLine_0 : decode cX7_feedLine 0 = .ok (.aload_n 0, 1) := by decide +kernel
theorem dX7_feedLine_1 : decode cX7_feedLine 1 = .ok (.getfield 7, 3) := by decide +kernel
theorem dX7_feedLine_4 : decode cX7_feedLine 4 = .ok (.bipush 10, 2) := by decide +kernel
theorem dX7_feedLine_6 : decode cX7_feedLine 6 = .ok (.iaload, 1) := by decide +kernel
theorem dX7_feedLine_7 : decode cX7_feedLine 7 = .ok (.iconst 1, 1) := by decide +kernel
theorem dX7_feedLine_8 : decode cX7_feedLine 8 = .ok (.if_icmp .ne 32, 3) := by decide +kernel
theorem dX7_feedLine_11 : decode cX7_feedLine 11 = .ok (.aload_n 0, 1) := by decide +kernel
theorem dX7_feedLine_12 : decode cX7_feedLine 12 = .ok (.getfield 7, 3) := by decide +kernel
theorem dX7_feedLine_15 : decode cX7_feedLine 15 = .ok (.iconst 1, 1) := by decide +kernel
theorem dX7_feedLine_16 : decode cX7_feedLine 16 = .ok (.aload_n 0, 1) := by decide +kernel
theorem dX7_feedLine_17 : decode cX7_feedLine 17 = .ok (.getfield 7, 3) := by decide +kernel
theorem dX7_feedLine_20 : decode cX7_feedLine 20 = .ok (.bipush 11, 2) := by decide +kernel
theorem dX7_feedLine_22 : decode cX7_feedLine 22 = .ok (.iaload, 1) := by decide +kernel
theorem dX7_feedLine_23 : decode cX7_feedLine 23 = .ok (.iastore, 1) := by decide +kernel
theorem dX7_feedLine_24 : decode cX7_feedLine 24 = .ok (.aload_n 0, 1) := by decide +kernel
theorem dX7_feedLine_25 : decode cX7_feedLine 25 = .ok (.getfield 7, 3) := by decide +kernel
theorem dX7_feedLine_28 : decode cX7_feedLine 28 = .ok (.iconst 2, 1) := by decide +kernel
theorem dX7_feedLine_29 : decode cX7_feedLine 29 = .ok (.aload_n 0, 1) := by decide +kernel
theorem dX7_feedLine_30 : decode cX7_feedLine 30 = .ok (.getfield 7, 3) := by decide +kernel
theorem dX7_feedLine_33 : decode cX7_feedLine 33 = .ok (.bipush 12, 2) := by decide +kernel
theorem dX7_feedLine_35 : decode cX7_feedLine 35 = .ok (.iaload, 1) := by decide +kernel
theorem dX7_feedLine_36 : decode cX7_feedLine 36 = .ok (.iastore, 1) := by decide +kernel
theorem dX7_feedLine_37 : decode cX7_feedLine 37 = .ok (.goto 136, 3) := by decide +kernel
theorem dX7_feedLine_40 : decode cX7_feedLine 40 = .ok (.aload_n 0, 1) := by decide +kernel
theorem dX7_feedLine_41 : decode cX7_feedLine 41 = .ok (.getfield 7, 3) := by decide +kernel
theorem dX7_feedLine_44 : decode cX7_feedLine 44 = .ok (.bipush 9, 2) := by decide +kernel
theorem dX7_feedLine_46 : decode cX7_feedLine 46 = .ok (.iaload, 1) := by decide +kernel
theorem dX7_feedLine_47 : decode cX7_feedLine 47 = .ok (.ifCond .ne 13, 3) := by decide +kernel
theorem dX7_feedLine_50 : decode cX7_feedLine 50 = .ok (.aload_n 0, 1) := by decide +kernel
theorem dX7_feedLine_51 : decode cX7_feedLine 51 = .ok (.getfield 7, 3) := by decide +kernel
theorem dX7_feedLine_54 : decode cX7_feedLine 54 = .ok (.iconst 1, 1) := by decide +kernel
theorem dX7_feedLine_55 : decode cX7_feedLine 55 = .ok (.iconst 0, 1) := by decide +kernel
theorem dX7_feedLine_56 : decode cX7_feedLine 56 = .ok (.iastore, 1) := by decide +kernel
theorem dX7_feedLine_57 : decode cX7_feedLine 57 = .ok (.goto 116, 3) := by decide +kernel
theorem dX7_feedLine_60 : decode cX7_feedLine 60 = .ok (.aload_n 0, 1) := by decide +kernel
theorem dX7_feedLine_61 : decode cX7_feedLine 61 = .ok (.getfield 7, 3) := by decide +kernel
theorem dX7_feedLine_64 : decode cX7_feedLine 64 = .ok (.iconst 1, 1) := by decide +kernel
theorem dX7_feedLine_65 : decode cX7_feedLine 65 = .ok (.sipush 230, 3) := by decide +kernel
theorem dX7_feedLine_68 : decode cX7_feedLine 68 = .ok (.aload_n 0, 1) := by decide +kernel
theorem dX7_feedLine_69 : decode cX7_feedLine 69 = .ok (.getfield 7, 3) := by decide +kernel
theorem dX7_feedLine_72 : decode cX7_feedLine 72 = .ok (.bipush 9, 2) := by decide +kernel
theorem dX7_feedLine_74 : decode cX7_feedLine 74 = .ok (.iaload, 1) := by decide +kernel
theorem dX7_feedLine_75 : decode cX7_feedLine 75 = .ok (.imul, 1) := by decide +kernel
theorem dX7_feedLine_76 : decode cX7_feedLine 76 = .ok (.aload_n 0, 1) := by decide +kernel
theorem dX7_feedLine_77 : decode cX7_feedLine 77 = .ok (.getfield 7, 3) := by decide +kernel
theorem dX7_feedLine_80 : decode cX7_feedLine 80 = .ok (.bipush 13, 2) := by decide +kernel
theorem dX7_feedLine_82 : decode cX7_feedLine 82 = .ok (.iaload, 1) := by decide +kernel
theorem dX7_feedLine_83 : decode cX7_feedLine 83 = .ok (.idiv, 1) := by decide +kernel
theorem dX7_feedLine_84 : decode cX7_feedLine 84 = .ok (.iconst 0, 1) := by decide +kernel
theorem dX7_feedLine_85 : decode cX7_feedLine 85 = .ok (.sipush 400, 3) := by decide +kernel
theorem dX7_feedLine_88 : decode cX7_feedLine 88 = .ok (.invokestatic 61, 3) := by decide +kernel
theorem dX7_feedLine_91 : decode cX7_feedLine 91 = .ok (.iastore, 1) := by decide +kernel
theorem dX7_feedLine_92 : decode cX7_feedLine 92 = .ok (.aload_n 0, 1) := by decide +kernel
theorem dX7_feedLine_93 : decode cX7_feedLine 93 = .ok (.getfield 7, 3) := by decide +kernel
theorem dX7_feedLine_96 : decode cX7_feedLine 96 = .ok (.iconst 5, 1) := by decide +kernel
theorem dX7_feedLine_97 : decode cX7_feedLine 97 = .ok (.iaload, 1) := by decide +kernel
theorem dX7_feedLine_98 : decode cX7_feedLine 98 = .ok (.istore_n 1, 1) := by decide +kernel
theorem dX7_feedLine_99 : decode cX7_feedLine 99 = .ok (.iload_n 1, 1) := by decide +kernel
theorem dX7_feedLine_100 : decode cX7_feedLine 100 = .ok (.aload_n 0, 1) := by decide +kernel
theorem dX7_feedLine_101 : decode cX7_feedLine 101 = .ok (.getfield 7, 3) := by decide +kernel
theorem dX7_feedLine_104 : decode cX7_feedLine 104 = .ok (.bipush 28, 2) := by decide +kernel
theorem dX7_feedLine_106 : decode cX7_feedLine 106 = .ok (.iaload, 1) := by decide +kernel
theorem dX7_feedLine_107 : decode cX7_feedLine 107 = .ok (.iadd, 1) := by decide +kernel
theorem dX7_feedLine_108 : decode cX7_feedLine 108 = .ok (.iload_n 1, 1) := by decide +kernel
theorem dX7_feedLine_109 : decode cX7_feedLine 109 = .ok (.ldc 27, 2) := by decide +kernel
theorem dX7_feedLine_111 : decode cX7_feedLine 111 = .ok (.isub, 1) := by decide +kernel
theorem dX7_feedLine_112 : decode cX7_feedLine 112 = .ok (.aload_n 0, 1) := by decide +kernel
theorem dX7_feedLine_113 : decode cX7_feedLine 113 = .ok (.getfield 7, 3) := by decide +kernel
theorem dX7_feedLine_116 : decode cX7_feedLine 116 = .ok (.bipush 29, 2) := by decide +kernel
theorem dX7_feedLine_118 : decode cX7_feedLine 118 = .ok (.iaload, 1) := by decide +kernel
theorem dX7_feedLine_119 : decode cX7_feedLine 119 = .ok (.imul, 1) := by decide +kernel
theorem dX7_feedLine_120 : decode cX7_feedLine 120 = .ok (.bipush 100, 2) := by decide +kernel
theorem dX7_feedLine_122 : decode cX7_feedLine 122 = .ok (.idiv, 1) := by decide +kernel
theorem dX7_feedLine_123 : decode cX7_feedLine 123 = .ok (.iadd, 1) := by decide +kernel
theorem dX7_feedLine_124 : decode cX7_feedLine 124 = .ok (.istore_n 2, 1) := by decide +kernel
theorem dX7_feedLine_125 : decode cX7_feedLine 125 = .ok (.aload_n 0, 1) := by decide +kernel
theorem dX7_feedLine_126 : decode cX7_feedLine 126 = .ok (.getfield 7, 3) := by decide +kernel
theorem dX7_feedLine_129 : decode cX7_feedLine 129 = .ok (.iconst 2, 1) := by decide +kernel
theorem dX7_feedLine_130 : decode cX7_feedLine 130 = .ok (.iaload, 1) := by decide +kernel
theorem dX7_feedLine_131 : decode cX7_feedLine 131 = .ok (.istore_n 3, 1) := by decide +kernel
theorem dX7_feedLine_132 : decode cX7_feedLine 132 = .ok (.aload_n 0, 1) := by decide +kernel
theorem dX7_feedLine_133 : decode cX7_feedLine 133 = .ok (.getfield 7, 3) := by decide +kernel
theorem dX7_feedLine_136 : decode cX7_feedLine 136 = .ok (.iconst 2, 1) := by decide +kernel
theorem dX7_feedLine_137 : decode cX7_feedLine 137 = .ok (.iload_n 3, 1) := by decide +kernel
theorem dX7_feedLine_138 : decode cX7_feedLine 138 = .ok (.iload_n 2, 1) := by decide +kernel
theorem dX7_feedLine_139 : decode cX7_feedLine 139 = .ok (.iload_n 3, 1) := by decide +kernel
theorem dX7_feedLine_140 : decode cX7_feedLine 140 = .ok (.isub, 1) := by decide +kernel
theorem dX7_feedLine_141 : decode cX7_feedLine 141 = .ok (.iconst 4, 1) := by decide +kernel
theorem dX7_feedLine_142 : decode cX7_feedLine 142 = .ok (.idiv, 1) := by decide +kernel
theorem dX7_feedLine_143 : decode cX7_feedLine 143 = .ok (.iadd, 1) := by decide +kernel
theorem dX7_feedLine_144 : decode cX7_feedLine 144 = .ok (.aload_n 0, 1) := by decide +kernel
theorem dX7_feedLine_145 : decode cX7_feedLine 145 = .ok (.getfield 7, 3) := by decide +kernel
theorem dX7_feedLine_148 : decode cX7_feedLine 148 = .ok (.bipush 14, 2) := by decide +kernel
theorem dX7_feedLine_150 : decode cX7_feedLine 150 = .ok (.iaload, 1) := by decide +kernel
theorem dX7_feedLine_151 : decode cX7_feedLine 151 = .ok (.iload_n 3, 1) := by decide +kernel
theorem dX7_feedLine_152 : decode cX7_feedLine 152 = .ok (.isub, 1) := by decide +kernel
theorem dX7_feedLine_153 : decode cX7_feedLine 153 = .ok (.aload_n 0, 1) := by decide +kernel
theorem dX7_feedLine_154 : decode cX7_feedLine 154 = .ok (.getfield 7, 3) := by decide +kernel
theorem dX7_feedLine_157 : decode cX7_feedLine 157 = .ok (.bipush 15, 2) := by decide +kernel
theorem dX7_feedLine_159 : decode cX7_feedLine 159 = .ok (.iaload, 1) := by decide +kernel
theorem dX7_feedLine_160 : decode cX7_feedLine 160 = .ok (.imul, 1) := by decide +kernel
theorem dX7_feedLine_161 : decode cX7_feedLine 161 = .ok (.bipush 100, 2) := by decide +kernel
theorem dX7_feedLine_163 : decode cX7_feedLine 163 = .ok (.idiv, 1) := by decide +kernel
theorem dX7_feedLine_164 : decode cX7_feedLine 164 = .ok (.iadd, 1) := by decide +kernel
theorem dX7_feedLine_165 : decode cX7_feedLine 165 = .ok (.ldc 55, 2) := by decide +kernel
theorem dX7_feedLine_167 : decode cX7_feedLine 167 = .ok (.ldc 56, 2) := by decide +kernel
theorem dX7_feedLine_169 : decode cX7_feedLine 169 = .ok (.invokestatic 61, 3) := by decide +kernel
theorem dX7_feedLine_172 : decode cX7_feedLine 172 = .ok (.iastore, 1) := by decide +kernel
theorem dX7_feedLine_173 : decode cX7_feedLine 173 = .ok (.aload_n 0, 1) := by decide +kernel
theorem dX7_feedLine_174 : decode cX7_feedLine 174 = .ok (.getfield 7, 3) := by decide +kernel
theorem dX7_feedLine_177 : decode cX7_feedLine 177 = .ok (.iconst 3, 1) := by decide +kernel
theorem dX7_feedLine_178 : decode cX7_feedLine 178 = .ok (.aload_n 0, 1) := by decide +kernel
theorem dX7_feedLine_179 : decode cX7_feedLine 179 = .ok (.getfield 7, 3) := by decide +kernel
theorem dX7_feedLine_182 : decode cX7_feedLine 182 = .ok (.iconst 3, 1) := by decide +kernel
theorem dX7_feedLine_183 : decode cX7_feedLine 183 = .ok (.iaload, 1) := by decide +kernel
theorem dX7_feedLine_184 : decode cX7_feedLine 184 = .ok (.aload_n 0, 1) := by decide +kernel
theorem dX7_feedLine_185 : decode cX7_feedLine 185 = .ok (.getfield 7, 3) := by decide +kernel
theorem dX7_feedLine_188 : decode cX7_feedLine 188 = .ok (.iconst 2, 1) := by decide +kernel
theorem dX7_feedLine_189 : decode cX7_feedLine 189 = .ok (.iaload, 1) := by decide +kernel
theorem dX7_feedLine_190 : decode cX7_feedLine 190 = .ok (.iadd, 1) := by decide +kernel
theorem dX7_feedLine_191 : decode cX7_feedLine 191 = .ok (.invokestatic 43, 3) := by decide +kernel
theorem dX7_feedLine_194 : decode cX7_feedLine 194 = .ok (.iastore, 1) := by decide +kernel
theorem dX7_feedLine_195 : decode cX7_feedLine 195 = .ok (.return_, 1) := by decide +kernel
set_option maxRecDepth 20000 in
theorem ggX7_follow_X7_round : GoodIn wsX7_follow wsX7_round := goodIn_r _ [9, 3] (by decide +kernel) (by decide +kernel)
set_option maxRecDepth 20000 in
theorem gX7_follow_X7_round : GoodIn wsX7_follow (va_wsS RX7 43 yX7_round wsX7_round) := goodIn_app (goodIn_of _ (by decide +kernel)) ggX7_follow_X7_round
set_option maxRecDepth 20000 in
theorem ggX7_follow_X7_limited : GoodIn wsX7_follow wsX7_limited := goodIn_r _ [12] (by decide +kernel) (by decide +kernel)
set_option maxRecDepth 20000 in
theorem gX7_follow_X7_limited : GoodIn wsX7_follow (va_wsS RX7 61 yX7_limited wsX7_limited) := goodIn_app (goodIn_of _ (by decide +kernel)) ggX7_follow_X7_limited
set_option maxRecDepth 20000 in
theorem ggX7_follow_X7_in : GoodIn wsX7_follow wsX7_in := goodIn_r _ [15] (by decide +kernel) (by decide +kernel)
set_option maxRecDepth 20000 in
theorem gX7_follow_X7_in : GoodIn wsX7_follow (va_wsS RX7 35 yX7_in wsX7_in) := goodIn_app (goodIn_of _ (by decide +kernel)) ggX7_follow_X7_in
theorem dX7_follow_0 : decode cX7_follow 0 = .ok (.aload_n 0, 1) := by decide +kernel
theorem dX7_follow_1 : decode cX7_follow 1 = .ok (.getfield 7, 3) := by decide +kernel
theorem dX7_follow_4 : decode cX7_follow 4 = .ok (.iconst 4, 1) := by decide +kernel
theorem dX7_follow_5 : decode cX7_follow 5 = .ok (.iaload, 1) := by decide +kernel
theorem dX7_follow_6 : decode cX7_follow 6 = .ok (.aload_n 0, 1) := by decide +kernel
theorem dX7_follow_7 : decode cX7_follow 7 = .ok (.getfield 7, 3) := by decide +kernel
theorem dX7_follow_10 : decode cX7_follow 10 = .ok (.iconst 5, 1) := by decide +kernel
theorem dX7_follow_11 : decode cX7_follow 11 = .ok (.iaload, 1) := by decide +kernel
theorem dX7_follow_12 : decode cX7_follow 12 = .ok (.iadd, 1) := by decide +kernel
theorem dX7_follow_13 : decode cX7_follow 13 = .ok (.istore_n 1, 1) := by decide +kernel
theorem dX7_follow_14 : decode cX7_follow 14 = .ok (.aload_n 0, 1) := by decide +kernel
theorem dX7_follow_15 : decode cX7_follow 15 = .ok (.getfield 7, 3) := by decide +kernel
theorem dX7_follow_18 : decode cX7_follow 18 = .ok (.iconst 1, 1) := by decide +kernel
theorem dX7_follow_19 : decode cX7_follow 19 = .ok (.iaload, 1) := by decide +kernel
theorem dX7_follow_20 : decode cX7_follow 20 = .ok (.bipush 20, 2) := by decide +kernel
theorem dX7_follow_22 : decode cX7_follow 22 = .ok (.if_icmp .lt 140, 3) := by decide +kernel
theorem dX7_follow_25 : decode cX7_follow 25 = .ok (.aload_n 0, 1) := by decide +kernel
theorem dX7_follow_26 : decode cX7_follow 26 = .ok (.getfield 7, 3) := by decide +kernel
theorem dX7_follow_29 : decode cX7_follow 29 = .ok (.iconst 3, 1) := by decide +kernel
theorem dX7_follow_30 : decode cX7_follow 30 = .ok (.iaload, 1) := by decide +kernel
theorem dX7_follow_31 : decode cX7_follow 31 = .ok (.iload_n 1, 1) := by decide +kernel
theorem dX7_follow_32 : decode cX7_follow 32 = .ok (.isub, 1) := by decide +kernel
theorem dX7_follow_33 : decode cX7_follow 33 = .ok (.invokestatic 43, 3) := by decide +kernel
theorem dX7_follow_36 : decode cX7_follow 36 = .ok (.istore_n 2, 1) := by decide +kernel
theorem dX7_follow_37 : decode cX7_follow 37 = .ok (.iload_n 2, 1) := by decide +kernel
theorem dX7_follow_38 : decode cX7_follow 38 = .ok (.ldc 42, 2) := by decide +kernel
theorem dX7_follow_40 : decode cX7_follow 40 = .ok (.if_icmp .lt 10, 3) := by decide +kernel
theorem dX7_follow_43 : decode cX7_follow 43 = .ok (.iload_n 2, 1) := by decide +kernel
theorem dX7_follow_44 : decode cX7_follow 44 = .ok (.ldc 34, 2) := by decide +kernel
theorem dX7_follow_46 : decode cX7_follow 46 = .ok (.isub, 1) := by decide +kernel
theorem dX7_follow_47 : decode cX7_follow 47 = .ok (.goto 4, 3) := by decide +kernel
theorem dX7_follow_50 : decode cX7_follow 50 = .ok (.iload_n 2, 1) := by decide +kernel
theorem dX7_follow_51 : decode cX7_follow 51 = .ok (.istore_n 2, 1) := by decide +kernel
theorem dX7_follow_52 : decode cX7_follow 52 = .ok (.aload_n 0, 1) := by decide +kernel
theorem dX7_follow_53 : decode cX7_follow 53 = .ok (.getfield 7, 3) := by decide +kernel
theorem dX7_follow_56 : decode cX7_follow 56 = .ok (.bipush 6, 2) := by decide +kernel
theorem dX7_follow_58 : decode cX7_follow 58 = .ok (.iload_n 2, 1) := by decide +kernel
theorem dX7_follow_59 : decode cX7_follow 59 = .ok (.iastore, 1) := by decide +kernel
theorem dX7_follow_60 : decode cX7_follow 60 = .ok (.aload_n 0, 1) := by decide +kernel
theorem dX7_follow_61 : decode cX7_follow 61 = .ok (.getfield 7, 3) := by decide +kernel
theorem dX7_follow_64 : decode cX7_follow 64 = .ok (.iconst 4, 1) := by decide +kernel
theorem dX7_follow_65 : decode cX7_follow 65 = .ok (.iload_n 1, 1) := by decide +kernel
theorem dX7_follow_66 : decode cX7_follow 66 = .ok (.iload_n 2, 1) := by decide +kernel
theorem dX7_follow_67 : decode cX7_follow 67 = .ok (.aload_n 0, 1) := by decide +kernel
theorem dX7_follow_68 : decode cX7_follow 68 = .ok (.getfield 7, 3) := by decide +kernel
theorem dX7_follow_71 : decode cX7_follow 71 = .ok (.bipush 16, 2) := by decide +kernel
theorem dX7_follow_73 : decode cX7_follow 73 = .ok (.iaload, 1) := by decide +kernel
theorem dX7_follow_74 : decode cX7_follow 74 = .ok (.imul, 1) := by decide +kernel
theorem dX7_follow_75 : decode cX7_follow 75 = .ok (.sipush 1000, 3) := by decide +kernel
theorem dX7_follow_78 : decode cX7_follow 78 = .ok (.idiv, 1) := by decide +kernel
theorem dX7_follow_79 : decode cX7_follow 79 = .ok (.iadd, 1) := by decide +kernel
theorem dX7_follow_80 : decode cX7_follow 80 = .ok (.invokestatic 43, 3) := by decide +kernel
theorem dX7_follow_83 : decode cX7_follow 83 = .ok (.iastore, 1) := by decide +kernel
theorem dX7_follow_84 : decode cX7_follow 84 = .ok (.aload_n 0, 1) := by decide +kernel
theorem dX7_follow_85 : decode cX7_follow 85 = .ok (.getfield 7, 3) := by decide +kernel
theorem dX7_follow_88 : decode cX7_follow 88 = .ok (.iconst 5, 1) := by decide +kernel
theorem dX7_follow_89 : decode cX7_follow 89 = .ok (.aload_n 0, 1) := by decide +kernel
theorem dX7_follow_90 : decode cX7_follow 90 = .ok (.getfield 7, 3) := by decide +kernel
theorem dX7_follow_93 : decode cX7_follow 93 = .ok (.iconst 5, 1) := by decide +kernel
theorem dX7_follow_94 : decode cX7_follow 94 = .ok (.iaload, 1) := by decide +kernel
theorem dX7_follow_95 : decode cX7_follow 95 = .ok (.iload_n 2, 1) := by decide +kernel
theorem dX7_follow_96 : decode cX7_follow 96 = .ok (.aload_n 0, 1) := by decide +kernel
theorem dX7_follow_97 : decode cX7_follow 97 = .ok (.getfield 7, 3) := by decide +kernel
theorem dX7_follow_100 : decode cX7_follow 100 = .ok (.bipush 17, 2) := by decide +kernel
theorem dX7_follow_102 : decode cX7_follow 102 = .ok (.iaload, 1) := by decide +kernel
theorem dX7_follow_103 : decode cX7_follow 103 = .ok (.imul, 1) := by decide +kernel
theorem dX7_follow_104 : decode cX7_follow 104 = .ok (.sipush 1000, 3) := by decide +kernel
theorem dX7_follow_107 : decode cX7_follow 107 = .ok (.idiv, 1) := by decide +kernel
theorem dX7_follow_108 : decode cX7_follow 108 = .ok (.iadd, 1) := by decide +kernel
theorem dX7_follow_109 : decode cX7_follow 109 = .ok (.ldc 55, 2) := by decide +kernel
theorem dX7_follow_111 : decode cX7_follow 111 = .ok (.ldc 56, 2) := by decide +kernel
theorem dX7_follow_113 : decode cX7_follow 113 = .ok (.invokestatic 61, 3) := by decide +kernel
theorem dX7_follow_116 : decode cX7_follow 116 = .ok (.iastore, 1) := by decide +kernel
theorem dX7_follow_117 : decode cX7_follow 117 = .ok (.aload_n 0, 1) := by decide +kernel
theorem dX7_follow_118 : decode cX7_follow 118 = .ok (.getfield 7, 3) := by decide +kernel
theorem dX7_follow_121 : decode cX7_follow 121 = .ok (.bipush 7, 2) := by decide +kernel
theorem dX7_follow_123 : decode cX7_follow 123 = .ok (.iload_n 2, 1) := by decide +kernel
theorem dX7_follow_124 : decode cX7_follow 124 = .ok (.aload_n 0, 1) := by decide +kernel
theorem dX7_follow_125 : decode cX7_follow 125 = .ok (.getfield 7, 3) := by decide +kernel
theorem dX7_follow_128 : decode cX7_follow 128 = .ok (.bipush 18, 2) := by decide +kernel
theorem dX7_follow_130 : decode cX7_follow 130 = .ok (.iaload, 1) := by decide +kernel
theorem dX7_follow_131 : decode cX7_follow 131 = .ok (.ineg, 1) := by decide +kernel
theorem dX7_follow_132 : decode cX7_follow 132 = .ok (.aload_n 0, 1) := by decide +kernel
theorem dX7_follow_133 : decode cX7_follow 133 = .ok (.getfield 7, 3) := by decide +kernel
theorem dX7_follow_136 : decode cX7_follow 136 = .ok (.bipush 18, 2) := by decide +kernel
theorem dX7_follow_138 : decode cX7_follow 138 = .ok (.iaload, 1) := by decide +kernel
theorem dX7_follow_139 : decode cX7_follow 139 = .ok (.invokestatic 35, 3) := by decide +kernel
theorem dX7_follow_142 : decode cX7_follow 142 = .ok (.ifCond .eq 15, 3) := by decide +kernel
theorem dX7_follow_145 : decode cX7_follow 145 = .ok (.aload_n 0, 1) := by decide +kernel
theorem dX7_follow_146 : decode cX7_follow 146 = .ok (.getfield 7, 3) := by decide +kernel
theorem dX7_follow_149 : decode cX7_follow 149 = .ok (.bipush 7, 2) := by decide +kernel
theorem dX7_follow_151 : decode cX7_follow 151 = .ok (.iaload, 1) := by decide +kernel
theorem dX7_follow_152 : decode cX7_follow 152 = .ok (.iconst 1, 1) := by decide +kernel
theorem dX7_follow_153 : decode cX7_follow 153 = .ok (.iadd, 1) := by decide +kernel
theorem dX7_follow_154 : decode cX7_follow 154 = .ok (.goto 4, 3) := by decide +kernel
theorem dX7_follow_157 : decode cX7_follow 157 = .ok (.iconst 0, 1) := by decide +kernel
theorem dX7_follow_158 : decode cX7_follow 158 = .ok (.iastore, 1) := by decide +kernel
theorem dX7_follow_159 : decode cX7_follow 159 = .ok (.goto 29, 3) := by decide +kernel
theorem dX7_follow_162 : decode cX7_follow 162 = .ok (.aload_n 0, 1) := by decide +kernel
theorem dX7_follow_163 : decode cX7_follow 163 = .ok (.getfield 7, 3) := by decide +kernel
theorem dX7_follow_166 : decode cX7_follow 166 = .ok (.bipush 6, 2) := by decide +kernel
theorem dX7_follow_168 : decode cX7_follow 168 = .ok (.iconst 0, 1) := by decide +kernel
theorem dX7_follow_169 : decode cX7_follow 169 = .ok (.iastore, 1) := by decide +kernel
theorem dX7_follow_170 : decode cX7_follow 170 = .ok (.aload_n 0, 1) := by decide +kernel
theorem dX7_follow_171 : decode cX7_follow 171 = .ok (.getfield 7, 3) := by decide +kernel
theorem dX7_follow_174 : decode cX7_follow 174 = .ok (.iconst 4, 1) := by decide +kernel
theorem dX7_follow_175 : decode cX7_follow 175 = .ok (.iload_n 1, 1) := by decide +kernel
theorem dX7_follow_176 : decode cX7_follow 176 = .ok (.invokestatic 43, 3) := by decide +kernel
theorem dX7_follow_179 : decode cX7_follow 179 = .ok (.iastore, 1) := by decide +kernel
theorem dX7_follow_180 : decode cX7_follow 180 = .ok (.aload_n 0, 1) := by decide +kernel
theorem dX7_follow_181 : decode cX7_follow 181 = .ok (.getfield 7, 3) := by decide +kernel
theorem dX7_follow_184 : decode cX7_follow 184 = .ok (.bipush 7, 2) := by decide +kernel
theorem dX7_follow_186 : decode cX7_follow 186 = .ok (.iconst 0, 1) := by decide +kernel
theorem dX7_follow_187 : decode cX7_follow 187 = .ok (.iastore, 1) := by decide +kernel
theorem dX7_follow_188 : decode cX7_follow 188 = .ok (.return_, 1) := by decide +kernel
theorem dX7_hasLock_0 : decode cX7_hasLock 0 = .ok (.aload_n 0, 1) := by decide +kernel
theorem dX7_hasLock_1 : decode cX7_hasLock 1 = .ok (.getfield 7, 3) := by decide +kernel
theorem dX7_hasLock_4 : decode cX7_hasLock 4 = .ok (.bipush 7, 2) := by decide +kernel
theorem dX7_hasLock_6 : decode cX7_hasLock 6 = .ok (.iaload, 1) := by decide +kernel
theorem dX7_hasLock_7 : decode cX7_hasLock 7 = .ok (.aload_n 0, 1) := by decide +kernel
theorem dX7_hasLock_8 : decode cX7_hasLock 8 = .ok (.getfield 7, 3) := by decide +kernel
theorem dX7_hasLock_11 : decode cX7_hasLock 11 = .ok (.bipush 19, 2) := by decide +kernel
theorem dX7_hasLock_13 : decode cX7_hasLock 13 = .ok (.iaload, 1) := by decide +kernel
theorem dX7_hasLock_14 : decode cX7_hasLock 14 = .ok (.if_icmp .lt 7, 3) := by decide +kernel
theorem dX7_hasLock_17 : decode cX7_hasLock 17 = .ok (.iconst 1, 1) := by decide +kernel
theorem dX7_hasLock_18 : decode cX7_hasLock 18 = .ok (.goto 4, 3) := by decide +kernel
theorem dX7_hasLock_21 : decode cX7_hasLock 21 = .ok (.iconst 0, 1) := by decide +kernel
theorem dX7_hasLock_22 : decode cX7_hasLock 22 = .ok (.ireturn, 1) := by decide +kernel
theorem dX7_isViolated_0 : decode cX7_isViolated 0 = .ok (.aload_n 0, 1) := by decide +kernel
theorem dX7_isViolated_1 : decode cX7_isViolated 1 = .ok (.getfield 7, 3) := by decide +kernel
theorem dX7_isViolated_4 : decode cX7_isViolated 4 = .ok (.bipush 61, 2) := by decide +kernel
theorem dX7_isViolated_6 : decode cX7_isViolated 6 = .ok (.iload_n 1, 1) := by decide +kernel
theorem dX7_isViolated_7 : decode cX7_isViolated 7 = .ok (.iadd, 1) := by decide +kernel
theorem dX7_isViolated_8 : decode cX7_isViolated 8 = .ok (.iaload, 1) := by decide +kernel
theorem dX7_isViolated_9 : decode cX7_isViolated 9 = .ok (.istore_n 2, 1) := by decide +kernel
theorem dX7_isViolated_10 : decode cX7_isViolated 10 = .ok (.aload_n 0, 1) := by decide +kernel
theorem dX7_isViolated_11 : decode cX7_isViolated 11 = .ok (.getfield 7, 3) := by decide +kernel
theorem dX7_isViolated_14 : decode cX7_isViolated 14 = .ok (.iconst 5, 1) := by decide +kernel
theorem dX7_isViolated_15 : decode cX7_isViolated 15 = .ok (.iaload, 1) := by decide +kernel
theorem dX7_isViolated_16 : decode cX7_isViolated 16 = .ok (.aload_n 0, 1) := by decide +kernel
theorem dX7_isViolated_17 : decode cX7_isViolated 17 = .ok (.getfield 7, 3) := by decide +kernel
theorem dX7_isViolated_20 : decode cX7_isViolated 20 = .ok (.bipush 33, 2) := by decide +kernel
theorem dX7_isViolated_22 : decode cX7_isViolated 22 = .ok (.aload_n 0, 1) := by decide +kernel
theorem dX7_isViolated_23 : decode cX7_isViolated 23 = .ok (.getfield 7, 3) := by decide +kernel
theorem dX7_isViolated_26 : decode cX7_isViolated 26 = .ok (.iconst 0, 1) := by decide +kernel
theorem dX7_isViolated_27 : decode cX7_isViolated 27 = .ok (.iaload, 1) := by decide +kernel
theorem dX7_isViolated_28 : decode cX7_isViolated 28 = .ok (.bipush 20, 2) := by decide +kernel
theorem dX7_isViolated_30 : decode cX7_isViolated 30 = .ok (.irem, 1) := by decide +kernel
theorem dX7_isViolated_31 : decode cX7_isViolated 31 = .ok (.iadd, 1) := by decide +kernel
theorem dX7_isViolated_32 : decode cX7_isViolated 32 = .ok (.iaload, 1) := by decide +kernel
theorem dX7_isViolated_33 : decode cX7_isViolated 33 = .ok (.isub, 1) := by decide +kernel
theorem dX7_isViolated_34 : decode cX7_isViolated 34 = .ok (.istore_n 3, 1) := by decide +kernel
theorem dX7_isViolated_35 : decode cX7_isViolated 35 = .ok (.aload_n 0, 1) := by decide +kernel
theorem dX7_isViolated_36 : decode cX7_isViolated 36 = .ok (.getfield 7, 3) := by decide +kernel
theorem dX7_isViolated_39 : decode cX7_isViolated 39 = .ok (.bipush 53, 2) := by decide +kernel
theorem dX7_isViolated_41 : decode cX7_isViolated 41 = .ok (.iload_n 1, 1) := by decide +kernel
theorem dX7_isViolated_42 : decode cX7_isViolated 42 = .ok (.iadd, 1) := by decide +kernel
theorem dX7_isViolated_43 : decode cX7_isViolated 43 = .ok (.iaload, 1) := by decide +kernel
theorem dX7_isViolated_44 : decode cX7_isViolated 44 = .ok (.tableswitch 96 0 3 #[32, 48, 64, 80], 32) := by decide +kernel
theorem dX7_isViolated_76 : decode cX7_isViolated 76 = .ok (.aload_n 0, 1) := by decide +kernel
theorem dX7_isViolated_77 : decode cX7_isViolated 77 = .ok (.getfield 7, 3) := by decide +kernel
theorem dX7_isViolated_80 : decode cX7_isViolated 80 = .ok (.iconst 1, 1) := by decide +kernel
theorem dX7_isViolated_81 : decode cX7_isViolated 81 = .ok (.iaload, 1) := by decide +kernel
theorem dX7_isViolated_82 : decode cX7_isViolated 82 = .ok (.iload_n 2, 1) := by decide +kernel
theorem dX7_isViolated_83 : decode cX7_isViolated 83 = .ok (.if_icmp .ge 7, 3) := by decide +kernel
theorem dX7_isViolated_86 : decode cX7_isViolated 86 = .ok (.iconst 1, 1) := by decide +kernel
theorem dX7_isViolated_87 : decode cX7_isViolated 87 = .ok (.goto 4, 3) := by decide +kernel
theorem dX7_isViolated_90 : decode cX7_isViolated 90 = .ok (.iconst 0, 1) := by decide +kernel
theorem dX7_isViolated_91 : decode cX7_isViolated 91 = .ok (.ireturn, 1) := by decide +kernel
theorem dX7_isViolated_92 : decode cX7_isViolated 92 = .ok (.aload_n 0, 1) := by decide +kernel
theorem dX7_isViolated_93 : decode cX7_isViolated 93 = .ok (.getfield 7, 3) := by decide +kernel
theorem dX7_isViolated_96 : decode cX7_isViolated 96 = .ok (.iconst 1, 1) := by decide +kernel
theorem dX7_isViolated_97 : decode cX7_isViolated 97 = .ok (.iaload, 1) := by decide +kernel
theorem dX7_isViolated_98 : decode cX7_isViolated 98 = .ok (.iload_n 2, 1) := by decide +kernel
theorem dX7_isViolated_99 : decode cX7_isViolated 99 = .ok (.if_icmp .le 7, 3) := by decide +kernel
theorem dX7_isViolated_102 : decode cX7_isViolated 102 = .ok (.iconst 1, 1) := by decide +kernel
theorem dX7_isViolated_103 : decode cX7_isViolated 103 = .ok (.goto 4, 3) := by decide +kernel
theorem dX7_isViolated_106 : decode cX7_isViolated 106 = .ok (.iconst 0, 1) := by decide +kernel
theorem dX7_isViolated_107 : decode cX7_isViolated 107 = .ok (.ireturn, 1) := by decide +kernel
theorem dX7_isViolated_108 : decode cX7_isViolated 108 = .ok (.aload_n 0, 1) := by decide +kernel
theorem dX7_isViolated_109 : decode cX7_isViolated 109 = .ok (.getfield 7, 3) := by decide +kernel
theorem dX7_isViolated_112 : decode cX7_isViolated 112 = .ok (.iconst 5, 1) := by decide +kernel
theorem dX7_isViolated_113 : decode cX7_isViolated 113 = .ok (.iaload, 1) := by decide +kernel
theorem dX7_isViolated_114 : decode cX7_isViolated 114 = .ok (.iload_n 2, 1) := by decide +kernel
theorem dX7_isViolated_115 : decode cX7_isViolated 115 = .ok (.if_icmp .ge 7, 3) := by decide +kernel
theorem dX7_isViolated_118 : decode cX7_isViolated 118 = .ok (.iconst 1, 1) := by decide +kernel
theorem dX7_isViolated_119 : decode cX7_isViolated 119 = .ok (.goto 4, 3) := by decide +kernel
theorem dX7_isViolated_122 : decode cX7_isViolated 122 = .ok (.iconst 0, 1) := by decide +kernel
theorem dX7_isViolated_123 : decode cX7_isViolated 123 = .ok (.ireturn, 1) := by decide +kernel
theorem dX7_isViolated_124 : decode cX7_isViolated 124 = .ok (.aload_n 0, 1) := by decide +kernel
theorem dX7_isViolated_125 : decode cX7_isViolated 125 = .ok (.getfield 7, 3) := by decide +kernel
theorem dX7_isViolated_128 : decode cX7_isViolated 128 = .ok (.iconst 5, 1) := by decide +kernel
theorem dX7_isViolated_129 : decode cX7_isViolated 129 = .ok (.iaload, 1) := by decide +kernel
theorem dX7_isViolated_130 : decode cX7_isViolated 130 = .ok (.iload_n 2, 1) := by decide +kernel
theorem dX7_isViolated_131 : decode cX7_isViolated 131 = .ok (.if_icmp .le 7, 3) := by decide +kernel
theorem dX7_isViolated_134 : decode cX7_isViolated 134 = .ok (.iconst 1, 1) := by decide +kernel
theorem dX7_isViolated_135 : decode cX7_isViolated 135 = .ok (.goto 4, 3) := by decide +kernel
theorem dX7_isViolated_138 : decode cX7_isViolated 138 = .ok (.iconst 0, 1) := by decide +kernel
theorem dX7_isViolated_139 : decode cX7_isViolated 139 = .ok (.ireturn, 1) := by decide +kernel
theorem dX7_isViolated_140 : decode cX7_isViolated 140 = .ok (.iload_n 3, 1) := by decide +kernel
theorem dX7_isViolated_141 : decode cX7_isViolated 141 = .ok (.iload_n 2, 1) := by decide +kernel
theorem dX7_isViolated_142 : decode cX7_isViolated 142 = .ok (.if_icmp .gt 9, 3) := by decide +kernel
theorem dX7_isViolated_145 : decode cX7_isViolated 145 = .ok (.iload_n 3, 1) := by decide +kernel
theorem dX7_isViolated_146 : decode cX7_isViolated 146 = .ok (.ineg, 1) := by decide +kernel
theorem dX7_isViolated_147 : decode cX7_isViolated 147 = .ok (.iload_n 2, 1) := by decide +kernel
theorem dX7_isViolated_148 : decode cX7_isViolated 148 = .ok (.if_icmp .le 7, 3) := by decide +kernel
theorem dX7_isViolated_151 : decode cX7_isViolated 151 = .ok (.iconst 1, 1) := by decide +kernel
theorem dX7_isViolated_152 : decode cX7_isViolated 152 = .ok (.goto 4, 3) := by decide +kernel
theorem dX7_isViolated_155 : decode cX7_isViolated 155 = .ok (.iconst 0, 1) := by decide +kernel
theorem dX7_isViolated_156 : decode cX7_isViolated 156 = .ok (.ireturn, 1) := by decide +kernel
set_option maxRecDepth 20000 in
theorem ggX7_trip_X7_note : GoodIn wsX7_trip wsX7_note := goodIn_r _ [6, 1, 7, 8, 9, 10, 11, 12, 13] (by decide +kernel) (by decide +kernel)
set_option maxRecDepth 20000 in
theorem gX7_trip_X7_note : GoodIn wsX7_trip (wsV RX7 57 RX7 yX7_note wsX7_note) := goodIn_app (goodIn_of _ (by decide +kernel)) ggX7_trip_X7_note
theorem dX7_trip_0 : decode cX7_trip 0 = .ok (.aload_n 0, 1) := by decide +kernel
theorem dX7_trip_1 : decode cX7_trip 1 = .ok (.getfield 7, 3) := by decide +kernel
theorem dX7_trip_4 : decode cX7_trip 4 = .ok (.bipush 20, 2) := by decide +kernel
theorem dX7_trip_6 : decode cX7_trip 6 = .ok (.iconst 0, 1) := by decide +kernel
theorem dX7_trip_7 : decode cX7_trip 7 = .ok (.iastore, 1) := by decide +kernel
theorem dX7_trip_8 : decode cX7_trip 8 = .ok (.aload_n 0, 1) := by decide +kernel
theorem dX7_trip_9 : decode cX7_trip 9 = .ok (.getfield 7, 3) := by decide +kernel
theorem dX7_trip_12 : decode cX7_trip 12 = .ok (.bipush 9, 2) := by decide +kernel
theorem dX7_trip_14 : decode cX7_trip 14 = .ok (.iconst 0, 1) := by decide +kernel
theorem dX7_trip_15 : decode cX7_trip 15 = .ok (.iastore, 1) := by decide +kernel
theorem dX7_trip_16 : decode cX7_trip 16 = .ok (.aload_n 0, 1) := by decide +kernel
theorem dX7_trip_17 : decode cX7_trip 17 = .ok (.getfield 7, 3) := by decide +kernel
theorem dX7_trip_20 : decode cX7_trip 20 = .ok (.bipush 8, 2) := by decide +kernel
theorem dX7_trip_22 : decode cX7_trip 22 = .ok (.iconst 0, 1) := by decide +kernel
theorem dX7_trip_23 : decode cX7_trip 23 = .ok (.iastore, 1) := by decide +kernel
theorem dX7_trip_24 : decode cX7_trip 24 = .ok (.aload_n 0, 1) := by decide +kernel
theorem dX7_trip_25 : decode cX7_trip 25 = .ok (.iload_n 1, 1) := by decide +kernel
theorem dX7_trip_26 : decode cX7_trip 26 = .ok (.invokevirtual 57, 3) := by decide +kernel
theorem dX7_trip_29 : decode cX7_trip 29 = .ok (.return_, 1) := by decide +kernel
set_option maxRecDepth 20000 in
theorem ggX7_run_X7_hasLock : GoodIn wsX7_run wsX7_hasLock := goodIn_r _ [6, 1, 22, 23, 24, 25, 26, 27, 28] (by decide +kernel) (by decide +kernel)
set_option maxRecDepth 20000 in
theorem gX7_run_X7_hasLock : GoodIn wsX7_run (wsV RX7 65 RX7 yX7_hasLock wsX7_hasLock) := goodIn_app (goodIn_of _ (by decide +kernel)) ggX7_run_X7_hasLock
set_option maxRecDepth 20000 in
theorem ggX7_run_X7_trip : GoodIn wsX7_run wsX7_trip := goodIn_r _ [10, 1, 11, 12, 13, 5, 14, 22, 23, 24, 25, 26, 27, 28] (by decide +kernel) (by decide +kernel)
set_option maxRecDepth 20000 in
theorem gX7_run_X7_trip : GoodIn wsX7_run (wsV RX7 69 RX7 yX7_trip wsX7_trip) := goodIn_app (goodIn_of _ (by decide +kernel)) ggX7_run_X7_trip
set_option maxRecDepth 20000 in
theorem ggX7_run_X7_isViolated : GoodIn wsX7_run wsX7_isViolated := goodIn_r _ [18, 1, 22, 23, 24, 25, 26, 27, 28] (by decide +kernel) (by decide +kernel)
set_option maxRecDepth 20000 in
theorem gX7_run_X7_isViolated : GoodIn wsX7_run (wsV RX7 72 RX7 yX7_isViolated wsX7_isViolated) := goodIn_app (goodIn_of _ (by decide +kernel)) ggX7_run_X7_isViolated
set_option maxRecDepth 20000 in
theorem ggX7_run_X7_limited : GoodIn wsX7_run wsX7_limited := goodIn_r _ [21] (by decide +kernel) (by decide +kernel)
set_option maxRecDepth 20000 in
theorem gX7_run_X7_limited : GoodIn wsX7_run (va_wsS RX7 61 yX7_limited wsX7_limited) := goodIn_app (goodIn_of _ (by decide +kernel)) ggX7_run_X7_limited
theorem dX7_run_0 : decode cX7_run 0 = .ok (.aload_n 0, 1) := by decide +kernel
theorem dX7_run_1 : decode cX7_run 1 = .ok (.invokevirtual 65, 3) := by decide +kernel
theorem dX7_run_4 : decode cX7_run 4 = .ok (.ifCond .ne 10, 3) := by decide +kernel
theorem dX7_run_7 : decode cX7_run 7 = .ok (.aload_n 0, 1) := by decide +kernel
theorem dX7_run_8 : decode cX7_run 8 = .ok (.bipush 101, 2) := by decide +kernel
theorem dX7_run_10 : decode cX7_run 10 = .ok (.invokevirtual 69, 3) := by decide +kernel
theorem dX7_run_13 : decode cX7_run 13 = .ok (.return_, 1) := by decide +kernel
theorem dX7_run_14 : decode cX7_run 14 = .ok (.iconst (-1), 1) := by decide +kernel
theorem dX7_run_15 : decode cX7_run 15 = .ok (.istore_n 1, 1) := by decide +kernel
theorem dX7_run_16 : decode cX7_run 16 = .ok (.aload_n 0, 1) := by decide +kernel
theorem dX7_run_17 : decode cX7_run 17 = .ok (.getfield 7, 3) := by decide +kernel
theorem dX7_run_20 : decode cX7_run 20 = .ok (.bipush 30, 2) := by decide +kernel
theorem dX7_run_22 : decode cX7_run 22 = .ok (.iaload, 1) := by decide +kernel
theorem dX7_run_23 : decode cX7_run 23 = .ok (.iconst 1, 1) := by decide +kernel
theorem dX7_run_24 : decode cX7_run 24 = .ok (.isub, 1) := by decide +kernel
theorem dX7_run_25 : decode cX7_run 25 = .ok (.istore_n 2, 1) := by decide +kernel
theorem dX7_run_26 : decode cX7_run 26 = .ok (.iload_n 2, 1) := by decide +kernel
theorem dX7_run_27 : decode cX7_run 27 = .ok (.ifCond .lt 68, 3) := by decide +kernel
theorem dX7_run_30 : decode cX7_run 30 = .ok (.aload_n 0, 1) := by decide +kernel
theorem dX7_run_31 : decode cX7_run 31 = .ok (.getfield 7, 3) := by decide +kernel
theorem dX7_run_34 : decode cX7_run 34 = .ok (.bipush 77, 2) := by decide +kernel
theorem dX7_run_36 : decode cX7_run 36 = .ok (.iload_n 2, 1) := by decide +kernel
theorem dX7_run_37 : decode cX7_run 37 = .ok (.iadd, 1) := by decide +kernel
theorem dX7_run_38 : decode cX7_run 38 = .ok (.aload_n 0, 1) := by decide +kernel
theorem dX7_run_39 : decode cX7_run 39 = .ok (.iload_n 2, 1) := by decide +kernel
theorem dX7_run_40 : decode cX7_run 40 = .ok (.invokevirtual 72, 3) := by decide +kernel
theorem dX7_run_43 : decode cX7_run 43 = .ok (.ifCond .eq 17, 3) := by decide +kernel
theorem dX7_run_46 : decode cX7_run 46 = .ok (.aload_n 0, 1) := by decide +kernel
theorem dX7_run_47 : decode cX7_run 47 = .ok (.getfield 7, 3) := by decide +kernel
theorem dX7_run_50 : decode cX7_run 50 = .ok (.bipush 77, 2) := by decide +kernel
theorem dX7_run_52 : decode cX7_run 52 = .ok (.iload_n 2, 1) := by decide +kernel
theorem dX7_run_53 : decode cX7_run 53 = .ok (.iadd, 1) := by decide +kernel
theorem dX7_run_54 : decode cX7_run 54 = .ok (.iaload, 1) := by decide +kernel
theorem dX7_run_55 : decode cX7_run 55 = .ok (.iconst 1, 1) := by decide +kernel
theorem dX7_run_56 : decode cX7_run 56 = .ok (.iadd, 1) := by decide +kernel
theorem dX7_run_57 : decode cX7_run 57 = .ok (.goto 4, 3) := by decide +kernel
theorem dX7_run_60 : decode cX7_run 60 = .ok (.iconst 0, 1) := by decide +kernel
theorem dX7_run_61 : decode cX7_run 61 = .ok (.iastore, 1) := by decide +kernel
theorem dX7_run_62 : decode cX7_run 62 = .ok (.aload_n 0, 1) := by decide +kernel
theorem dX7_run_63 : decode cX7_run 63 = .ok (.getfield 7, 3) := by decide +kernel
theorem dX7_run_66 : decode cX7_run 66 = .ok (.bipush 77, 2) := by decide +kernel
theorem dX7_run_68 : decode cX7_run 68 = .ok (.iload_n 2, 1) := by decide +kernel
theorem dX7_run_69 : decode cX7_run 69 = .ok (.iadd, 1) := by decide +kernel
theorem dX7_run_70 : decode cX7_run 70 = .ok (.iaload, 1) := by decide +kernel
theorem dX7_run_71 : decode cX7_run 71 = .ok (.aload_n 0, 1) := by decide +kernel
theorem dX7_run_72 : decode cX7_run 72 = .ok (.getfield 7, 3) := by decide +kernel
theorem dX7_run_75 : decode cX7_run 75 = .ok (.bipush 69, 2) := by decide +kernel
theorem dX7_run_77 : decode cX7_run 77 = .ok (.iload_n 2, 1) := by decide +kernel
theorem dX7_run_78 : decode cX7_run 78 = .ok (.iadd, 1) := by decide +kernel
theorem dX7_run_79 : decode cX7_run 79 = .ok (.iaload, 1) := by decide +kernel
theorem dX7_run_80 : decode cX7_run 80 = .ok (.if_icmp .lt 7, 3) := by decide +kernel
theorem dX7_run_83 : decode cX7_run 83 = .ok (.iload_n 2, 1) := by decide +kernel
theorem dX7_run_84 : decode cX7_run 84 = .ok (.goto 4, 3) := by decide +kernel
theorem dX7_run_87 : decode cX7_run 87 = .ok (.iload_n 1, 1) := by decide +kernel
theorem dX7_run_88 : decode cX7_run 88 = .ok (.istore_n 1, 1) := by decide +kernel
theorem dX7_run_89 : decode cX7_run 89 = .ok (.iinc 2 (-1), 3) := by decide +kernel
theorem dX7_run_92 : decode cX7_run 92 = .ok (.goto (-66), 3) := by decide +kernel
theorem dX7_run_95 : decode cX7_run 95 = .ok (.iload_n 1, 1) := by decide +kernel
theorem dX7_run_96 : decode cX7_run 96 = .ok (.iconst (-1), 1) := by decide +kernel
theorem dX7_run_97 : decode cX7_run 97 = .ok (.if_icmp .eq 11, 3) := by decide +kernel
theorem dX7_run_100 : decode cX7_run 100 = .ok (.aload_n 0, 1) := by decide +kernel
theorem dX7_run_101 : decode cX7_run 101 = .ok (.iload_n 1, 1) := by decide +kernel
theorem dX7_run_102 : decode cX7_run 102 = .ok (.invokevirtual 69, 3) := by decide +kernel
theorem dX7_run_105 : decode cX7_run 105 = .ok (.goto 36, 3) := by decide +kernel
theorem dX7_run_108 : decode cX7_run 108 = .ok (.aload_n 0, 1) := by decide +kernel
theorem dX7_run_109 : decode cX7_run 109 = .ok (.getfield 7, 3) := by decide +kernel
theorem dX7_run_112 : decode cX7_run 112 = .ok (.bipush 9, 2) := by decide +kernel
theorem dX7_run_114 : decode cX7_run 114 = .ok (.aload_n 0, 1) := by decide +kernel
theorem dX7_run_115 : decode cX7_run 115 = .ok (.getfield 7, 3) := by decide +kernel
theorem dX7_run_118 : decode cX7_run 118 = .ok (.bipush 9, 2) := by decide +kernel
theorem dX7_run_120 : decode cX7_run 120 = .ok (.iaload, 1) := by decide +kernel
theorem dX7_run_121 : decode cX7_run 121 = .ok (.aload_n 0, 1) := by decide +kernel
theorem dX7_run_122 : decode cX7_run 122 = .ok (.getfield 7, 3) := by decide +kernel
theorem dX7_run_125 : decode cX7_run 125 = .ok (.bipush 23, 2) := by decide +kernel
theorem dX7_run_127 : decode cX7_run 127 = .ok (.iaload, 1) := by decide +kernel
theorem dX7_run_128 : decode cX7_run 128 = .ok (.iadd, 1) := by decide +kernel
theorem dX7_run_129 : decode cX7_run 129 = .ok (.iconst 0, 1) := by decide +kernel
theorem dX7_run_130 : decode cX7_run 130 = .ok (.aload_n 0, 1) := by decide +kernel
theorem dX7_run_131 : decode cX7_run 131 = .ok (.getfield 7, 3) := by decide +kernel
theorem dX7_run_134 : decode cX7_run 134 = .ok (.bipush 21, 2) := by decide +kernel
theorem dX7_run_136 : decode cX7_run 136 = .ok (.iaload, 1) := by decide +kernel
theorem dX7_run_137 : decode cX7_run 137 = .ok (.invokestatic 61, 3) := by decide +kernel
theorem dX7_run_140 : decode cX7_run 140 = .ok (.iastore, 1) := by decide +kernel
theorem dX7_run_141 : decode cX7_run 141 = .ok (.return_, 1) := by decide +kernel
set_option maxRecDepth 20000 in
theorem ggX7_await_X7_in : GoodIn wsX7_await wsX7_in := goodIn_r _ [5] (by decide +kernel) (by decide +kernel)
set_option maxRecDepth 20000 in
theorem gX7_await_X7_in : GoodIn wsX7_await (va_wsS RX7 35 yX7_in wsX7_in) := goodIn_app (goodIn_of _ (by decide +kernel)) ggX7_await_X7_in
set_option maxRecDepth 20000 in
theorem ggX7_await_X7_hasLock : GoodIn wsX7_await wsX7_hasLock := goodIn_r _ [9, 1, 17, 18, 19, 20, 21, 22, 23] (by decide +kernel) (by decide +kernel)
set_option maxRecDepth 20000 in
theorem gX7_await_X7_hasLock : GoodIn wsX7_await (wsV RX7 65 RX7 yX7_hasLock wsX7_hasLock) := goodIn_app (goodIn_of _ (by decide +kernel)) ggX7_await_X7_hasLock
set_option maxRecDepth 20000 in
theorem ggX7_await_X7_limited : GoodIn wsX7_await wsX7_limited := goodIn_r _ [12] (by decide +kernel) (by decide +kernel)
set_option maxRecDepth 20000 in
theorem gX7_await_X7_limited : GoodIn wsX7_await (va_wsS RX7 61 yX7_limited wsX7_limited) := goodIn_app (goodIn_of _ (by decide +kernel)) ggX7_await_X7_limited
set_option maxRecDepth 20000 in
theorem ggX7_await_X7_note : GoodIn wsX7_await wsX7_note := goodIn_r _ [16, 1, 17, 18, 19, 20, 21, 22, 23] (by decide +kernel) (by decide +kernel)
set_option maxRecDepth 20000 in
theorem gX7_await_X7_note : GoodIn wsX7_await (wsV RX7 57 RX7 yX7_note wsX7_note) := goodIn_app (goodIn_of _ (by decide +kernel)) ggX7_await_X7_note
theorem dX7_await_0 : decode cX7_await 0 = .ok (.aload_n 0, 1) := by decide +kernel
theorem dX7_await_1 : decode cX7_await 1 = .ok (.getfield 7, 3) := by decide +kernel
theorem dX7_await_4 : decode cX7_await 4 = .ok (.iconst 1, 1) := by decide +kernel
theorem dX7_await_5 : decode cX7_await 5 = .ok (.iaload, 1) := by decide +kernel
theorem dX7_await_6 : decode cX7_await 6 = .ok (.aload_n 0, 1) := by decide +kernel
theorem dX7_await_7 : decode cX7_await 7 = .ok (.getfield 7, 3) := by decide +kernel
theorem dX7_await_10 : decode cX7_await 10 = .ok (.bipush 24, 2) := by decide +kernel
theorem dX7_await_12 : decode cX7_await 12 = .ok (.iaload, 1) := by decide +kernel
theorem dX7_await_13 : decode cX7_await 13 = .ok (.aload_n 0, 1) := by decide +kernel
theorem dX7_await_14 : decode cX7_await 14 = .ok (.getfield 7, 3) := by decide +kernel
theorem dX7_await_17 : decode cX7_await 17 = .ok (.bipush 25, 2) := by decide +kernel
theorem dX7_await_19 : decode cX7_await 19 = .ok (.iaload, 1) := by decide +kernel
theorem dX7_await_20 : decode cX7_await 20 = .ok (.invokestatic 35, 3) := by decide +kernel
theorem dX7_await_23 : decode cX7_await 23 = .ok (.ifCond .eq 33, 3) := by decide +kernel
theorem dX7_await_26 : decode cX7_await 26 = .ok (.aload_n 0, 1) := by decide +kernel
theorem dX7_await_27 : decode cX7_await 27 = .ok (.getfield 7, 3) := by decide +kernel
theorem dX7_await_30 : decode cX7_await 30 = .ok (.iconst 5, 1) := by decide +kernel
theorem dX7_await_31 : decode cX7_await 31 = .ok (.iaload, 1) := by decide +kernel
theorem dX7_await_32 : decode cX7_await 32 = .ok (.aload_n 0, 1) := by decide +kernel
theorem dX7_await_33 : decode cX7_await 33 = .ok (.getfield 7, 3) := by decide +kernel
theorem dX7_await_36 : decode cX7_await 36 = .ok (.bipush 26, 2) := by decide +kernel
theorem dX7_await_38 : decode cX7_await 38 = .ok (.iaload, 1) := by decide +kernel
theorem dX7_await_39 : decode cX7_await 39 = .ok (.aload_n 0, 1) := by decide +kernel
theorem dX7_await_40 : decode cX7_await 40 = .ok (.getfield 7, 3) := by decide +kernel
theorem dX7_await_43 : decode cX7_await 43 = .ok (.bipush 27, 2) := by decide +kernel
theorem dX7_await_45 : decode cX7_await 45 = .ok (.iaload, 1) := by decide +kernel
theorem dX7_await_46 : decode cX7_await 46 = .ok (.invokestatic 35, 3) := by decide +kernel
theorem dX7_await_49 : decode cX7_await 49 = .ok (.ifCond .eq 7, 3) := by decide +kernel
theorem dX7_await_52 : decode cX7_await 52 = .ok (.iconst 1, 1) := by decide +kernel
theorem dX7_await_53 : decode cX7_await 53 = .ok (.goto 4, 3) := by decide +kernel
theorem dX7_await_56 : decode cX7_await 56 = .ok (.iconst 0, 1) := by decide +kernel
theorem dX7_await_57 : decode cX7_await 57 = .ok (.istore_n 1, 1) := by decide +kernel
theorem dX7_await_58 : decode cX7_await 58 = .ok (.aload_n 0, 1) := by decide +kernel
theorem dX7_await_59 : decode cX7_await 59 = .ok (.getfield 7, 3) := by decide +kernel
theorem dX7_await_62 : decode cX7_await 62 = .ok (.bipush 8, 2) := by decide +kernel
theorem dX7_await_64 : decode cX7_await 64 = .ok (.iload_n 1, 1) := by decide +kernel
theorem dX7_await_65 : decode cX7_await 65 = .ok (.ifCond .eq 22, 3) := by decide +kernel
theorem dX7_await_68 : decode cX7_await 68 = .ok (.aload_n 0, 1) := by decide +kernel
theorem dX7_await_69 : decode cX7_await 69 = .ok (.invokevirtual 65, 3) := by decide +kernel
theorem dX7_await_72 : decode cX7_await 72 = .ok (.ifCond .eq 15, 3) := by decide +kernel
theorem dX7_await_75 : decode cX7_await 75 = .ok (.aload_n 0, 1) := by decide +kernel
theorem dX7_await_76 : decode cX7_await 76 = .ok (.getfield 7, 3) := by decide +kernel
theorem dX7_await_79 : decode cX7_await 79 = .ok (.bipush 8, 2) := by decide +kernel
theorem dX7_await_81 : decode cX7_await 81 = .ok (.iaload, 1) := by decide +kernel
theorem dX7_await_82 : decode cX7_await 82 = .ok (.iconst 1, 1) := by decide +kernel
theorem dX7_await_83 : decode cX7_await 83 = .ok (.iadd, 1) := by decide +kernel
theorem dX7_await_84 : decode cX7_await 84 = .ok (.goto 4, 3) := by decide +kernel
theorem dX7_await_87 : decode cX7_await 87 = .ok (.iconst 0, 1) := by decide +kernel
theorem dX7_await_88 : decode cX7_await 88 = .ok (.iastore, 1) := by decide +kernel
theorem dX7_await_89 : decode cX7_await 89 = .ok (.aload_n 0, 1) := by decide +kernel
theorem dX7_await_90 : decode cX7_await 90 = .ok (.getfield 7, 3) := by decide +kernel
theorem dX7_await_93 : decode cX7_await 93 = .ok (.bipush 8, 2) := by decide +kernel
theorem dX7_await_95 : decode cX7_await 95 = .ok (.iaload, 1) := by decide +kernel
theorem dX7_await_96 : decode cX7_await 96 = .ok (.aload_n 0, 1) := by decide +kernel
theorem dX7_await_97 : decode cX7_await 97 = .ok (.getfield 7, 3) := by decide +kernel
theorem dX7_await_100 : decode cX7_await 100 = .ok (.bipush 22, 2) := by decide +kernel
theorem dX7_await_102 : decode cX7_await 102 = .ok (.iaload, 1) := by decide +kernel
theorem dX7_await_103 : decode cX7_await 103 = .ok (.if_icmp .lt 71, 3) := by decide +kernel
theorem dX7_await_106 : decode cX7_await 106 = .ok (.aload_n 0, 1) := by decide +kernel
theorem dX7_await_107 : decode cX7_await 107 = .ok (.getfield 7, 3) := by decide +kernel
theorem dX7_await_110 : decode cX7_await 110 = .ok (.bipush 20, 2) := by decide +kernel
theorem dX7_await_112 : decode cX7_await 112 = .ok (.iconst 1, 1) := by decide +kernel
theorem dX7_await_113 : decode cX7_await 113 = .ok (.iastore, 1) := by decide +kernel
theorem dX7_await_114 : decode cX7_await 114 = .ok (.aload_n 0, 1) := by decide +kernel
theorem dX7_await_115 : decode cX7_await 115 = .ok (.getfield 7, 3) := by decide +kernel
theorem dX7_await_118 : decode cX7_await 118 = .ok (.bipush 9, 2) := by decide +kernel
theorem dX7_await_120 : decode cX7_await 120 = .ok (.aload_n 0, 1) := by decide +kernel
theorem dX7_await_121 : decode cX7_await 121 = .ok (.getfield 7, 3) := by decide +kernel
theorem dX7_await_124 : decode cX7_await 124 = .ok (.bipush 23, 2) := by decide +kernel
theorem dX7_await_126 : decode cX7_await 126 = .ok (.iaload, 1) := by decide +kernel
theorem dX7_await_127 : decode cX7_await 127 = .ok (.iconst 0, 1) := by decide +kernel
theorem dX7_await_128 : decode cX7_await 128 = .ok (.aload_n 0, 1) := by decide +kernel
theorem dX7_await_129 : decode cX7_await 129 = .ok (.getfield 7, 3) := by decide +kernel
theorem dX7_await_132 : decode cX7_await 132 = .ok (.bipush 21, 2) := by decide +kernel
theorem dX7_await_134 : decode cX7_await 134 = .ok (.iaload, 1) := by decide +kernel
theorem dX7_await_135 : decode cX7_await 135 = .ok (.invokestatic 61, 3) := by decide +kernel
theorem dX7_await_138 : decode cX7_await 138 = .ok (.iastore, 1) := by decide +kernel
theorem dX7_await_139 : decode cX7_await 139 = .ok (.iconst 0, 1) := by decide +kernel
theorem dX7_await_140 : decode cX7_await 140 = .ok (.istore_n 2, 1) := by decide +kernel
theorem dX7_await_141 : decode cX7_await 141 = .ok (.iload_n 2, 1) := by decide +kernel
theorem dX7_await_142 : decode cX7_await 142 = .ok (.aload_n 0, 1) := by decide +kernel
theorem dX7_await_143 : decode cX7_await 143 = .ok (.getfield 7, 3) := by decide +kernel
theorem dX7_await_146 : decode cX7_await 146 = .ok (.bipush 30, 2) := by decide +kernel
theorem dX7_await_148 : decode cX7_await 148 = .ok (.iaload, 1) := by decide +kernel
theorem dX7_await_149 : decode cX7_await 149 = .ok (.if_icmp .ge 19, 3) := by decide +kernel
theorem dX7_await_152 : decode cX7_await 152 = .ok (.aload_n 0, 1) := by decide +kernel
theorem dX7_await_153 : decode cX7_await 153 = .ok (.getfield 7, 3) := by decide +kernel
theorem dX7_await_156 : decode cX7_await 156 = .ok (.bipush 77, 2) := by decide +kernel
theorem dX7_await_158 : decode cX7_await 158 = .ok (.iload_n 2, 1) := by decide +kernel
theorem dX7_await_159 : decode cX7_await 159 = .ok (.iadd, 1) := by decide +kernel
theorem dX7_await_160 : decode cX7_await 160 = .ok (.iconst 0, 1) := by decide +kernel
theorem dX7_await_161 : decode cX7_await 161 = .ok (.iastore, 1) := by decide +kernel
theorem dX7_await_162 : decode cX7_await 162 = .ok (.iinc 2 1, 3) := by decide +kernel
theorem dX7_await_165 : decode cX7_await 165 = .ok (.goto (-24), 3) := by decide +kernel
theorem dX7_await_168 : decode cX7_await 168 = .ok (.aload_n 0, 1) := by decide +kernel
theorem dX7_await_169 : decode cX7_await 169 = .ok (.bipush 100, 2) := by decide +kernel
theorem dX7_await_171 : decode cX7_await 171 = .ok (.invokevirtual 57, 3) := by decide +kernel
theorem dX7_await_174 : decode cX7_await 174 = .ok (.return_, 1) := by decide +kernel
set_option maxRecDepth 20000 in
theorem ggX7_tick_X7_feedLine : GoodIn wsX7_tick wsX7_feedLine := goodIn_r _ [6, 1, 7, 8, 9, 10, 11, 5, 12, 13, 14, 15, 16, 49, 50, 51, 52, 53, 54, 55] (by decide +kernel) (by decide +kernel)
set_option maxRecDepth 20000 in
theorem gX7_tick_X7_feedLine : GoodIn wsX7_tick (wsV RX7 76 RX7 yX7_feedLine wsX7_feedLine) := goodIn_app (goodIn_of _ (by decide +kernel)) ggX7_tick_X7_feedLine
set_option maxRecDepth 20000 in
theorem ggX7_tick_X7_follow : GoodIn wsX7_tick wsX7_follow := goodIn_r _ [20, 1, 21, 16, 8, 9, 13, 14, 5, 15, 10, 11, 12, 22, 23, 24, 49, 50, 51, 52, 53, 54, 55] (by decide +kernel) (by decide +kernel)
set_option maxRecDepth 20000 in
theorem gX7_tick_X7_follow : GoodIn wsX7_tick (wsV RX7 79 RX7 yX7_follow wsX7_follow) := goodIn_app (goodIn_of _ (by decide +kernel)) ggX7_tick_X7_follow
set_option maxRecDepth 20000 in
theorem ggX7_tick_X7_run : GoodIn wsX7_tick wsX7_run := goodIn_r _ [28, 1, 29, 30, 31, 5, 32, 33, 34, 35, 36, 37, 38, 39, 40, 41, 42, 43, 44, 10, 11, 12, 49, 50, 51, 52, 53, 54, 55] (by decide +kernel) (by decide +kernel)
set_option maxRecDepth 20000 in
theorem gX7_tick_X7_run : GoodIn wsX7_tick (wsV RX7 82 RX7 yX7_run wsX7_run) := goodIn_app (goodIn_of _ (by decide +kernel)) ggX7_tick_X7_run
set_option maxRecDepth 20000 in
theorem ggX7_tick_X7_await : GoodIn wsX7_tick wsX7_await := goodIn_r _ [48, 1, 22, 23, 5, 24, 29, 30, 31, 32, 10, 11, 12, 37, 38, 39, 40, 49, 50, 51, 52, 53, 54, 55] (by decide +kernel) (by decide +kernel)
set_option maxRecDepth 20000 in
theorem gX7_tick_X7_await : GoodIn wsX7_tick (wsV RX7 85 RX7 yX7_await wsX7_await) := goodIn_app (goodIn_of _ (by decide +kernel)) ggX7_tick_X7_await
theorem dX7_tick_0 : decode cX7_tick 0 = .ok (.aload_n 0, 1) := by decide +kernel
theorem dX7_tick_1 : decode cX7_tick 1 = .ok (.getfield 7, 3) := by decide +kernel
theorem dX7_tick_4 : decode cX7_tick 4 = .ok (.iconst 0, 1) := by decide +kernel
theorem dX7_tick_5 : decode cX7_tick 5 = .ok (.dup2, 1) := by decide +kernel
theorem dX7_tick_6 : decode cX7_tick 6 = .ok (.iaload, 1) := by decide +kernel
theorem dX7_tick_7 : decode cX7_tick 7 = .ok (.iconst 1, 1) := by decide +kernel
theorem dX7_tick_8 : decode cX7_tick 8 = .ok (.iadd, 1) := by decide +kernel
theorem dX7_tick_9 : decode cX7_tick 9 = .ok (.iastore, 1) := by decide +kernel
theorem dX7_tick_10 : decode cX7_tick 10 = .ok (.aload_n 0, 1) := by decide +kernel
theorem dX7_tick_11 : decode cX7_tick 11 = .ok (.invokevirtual 76, 3) := by decide +kernel
theorem dX7_tick_14 : decode cX7_tick 14 = .ok (.aload_n 0, 1) := by decide +kernel
theorem dX7_tick_15 : decode cX7_tick 15 = .ok (.invokevirtual 79, 3) := by decide +kernel
theorem dX7_tick_18 : decode cX7_tick 18 = .ok (.aload_n 0, 1) := by decide +kernel
theorem dX7_tick_19 : decode cX7_tick 19 = .ok (.getfield 7, 3) := by decide +kernel
theorem dX7_tick_22 : decode cX7_tick 22 = .ok (.bipush 20, 2) := by decide +kernel
theorem dX7_tick_24 : decode cX7_tick 24 = .ok (.iaload, 1) := by decide +kernel
theorem dX7_tick_25 : decode cX7_tick 25 = .ok (.iconst 1, 1) := by decide +kernel
theorem dX7_tick_26 : decode cX7_tick 26 = .ok (.if_icmp .ne 10, 3) := by decide +kernel
theorem dX7_tick_29 : decode cX7_tick 29 = .ok (.aload_n 0, 1) := by decide +kernel
theorem dX7_tick_30 : decode cX7_tick 30 = .ok (.invokevirtual 82, 3) := by decide +kernel
theorem dX7_tick_33 : decode cX7_tick 33 = .ok (.goto 17, 3) := by decide +kernel
theorem dX7_tick_36 : decode cX7_tick 36 = .ok (.aload_n 0, 1) := by decide +kernel
theorem dX7_tick_37 : decode cX7_tick 37 = .ok (.getfield 7, 3) := by decide +kernel
theorem dX7_tick_40 : decode cX7_tick 40 = .ok (.bipush 20, 2) := by decide +kernel
theorem dX7_tick_42 : decode cX7_tick 42 = .ok (.iaload, 1) := by decide +kernel
theorem dX7_tick_43 : decode cX7_tick 43 = .ok (.ifCond .ne 7, 3) := by decide +kernel
theorem dX7_tick_46 : decode cX7_tick 46 = .ok (.aload_n 0, 1) := by decide +kernel
theorem dX7_tick_47 : decode cX7_tick 47 = .ok (.invokevirtual 85, 3) := by decide +kernel
theorem dX7_tick_50 : decode cX7_tick 50 = .ok (.aload_n 0, 1) := by decide +kernel
theorem dX7_tick_51 : decode cX7_tick 51 = .ok (.getfield 7, 3) := by decide +kernel
theorem dX7_tick_54 : decode cX7_tick 54 = .ok (.bipush 33, 2) := by decide +kernel
theorem dX7_tick_56 : decode cX7_tick 56 = .ok (.aload_n 0, 1) := by decide +kernel
theorem dX7_tick_57 : decode cX7_tick 57 = .ok (.getfield 7, 3) := by decide +kernel
theorem dX7_tick_60 : decode cX7_tick 60 = .ok (.iconst 0, 1) := by decide +kernel
theorem dX7_tick_61 : decode cX7_tick 61 = .ok (.iaload, 1) := by decide +kernel
theorem dX7_tick_62 : decode cX7_tick 62 = .ok (.bipush 20, 2) := by decide +kernel
theorem dX7_tick_64 : decode cX7_tick 64 = .ok (.irem, 1) := by decide +kernel
theorem dX7_tick_65 : decode cX7_tick 65 = .ok (.iadd, 1) := by decide +kernel
theorem dX7_tick_66 : decode cX7_tick 66 = .ok (.aload_n 0, 1) := by decide +kernel
theorem dX7_tick_67 : decode cX7_tick 67 = .ok (.getfield 7, 3) := by decide +kernel
theorem dX7_tick_70 : decode cX7_tick 70 = .ok (.iconst 5, 1) := by decide +kernel
theorem dX7_tick_71 : decode cX7_tick 71 = .ok (.iaload, 1) := by decide +kernel
theorem dX7_tick_72 : decode cX7_tick 72 = .ok (.iastore, 1) := by decide +kernel
theorem dX7_tick_73 : decode cX7_tick 73 = .ok (.aload_n 0, 1) := by decide +kernel
theorem dX7_tick_74 : decode cX7_tick 74 = .ok (.getfield 7, 3) := by decide +kernel
theorem dX7_tick_77 : decode cX7_tick 77 = .ok (.bipush 31, 2) := by decide +kernel
theorem dX7_tick_79 : decode cX7_tick 79 = .ok (.dup2, 1) := by decide +kernel
theorem dX7_tick_80 : decode cX7_tick 80 = .ok (.iaload, 1) := by decide +kernel
theorem dX7_tick_81 : decode cX7_tick 81 = .ok (.aload_n 0, 1) := by decide +kernel
theorem dX7_tick_82 : decode cX7_tick 82 = .ok (.getfield 7, 3) := by decide +kernel
theorem dX7_tick_85 : decode cX7_tick 85 = .ok (.bipush 20, 2) := by decide +kernel
theorem dX7_tick_87 : decode cX7_tick 87 = .ok (.iaload, 1) := by decide +kernel
theorem dX7_tick_88 : decode cX7_tick 88 = .ok (.iconst 1, 1) := by decide +kernel
theorem dX7_tick_89 : decode cX7_tick 89 = .ok (.if_icmp .ne 7, 3) := by decide +kernel
theorem dX7_tick_92 : decode cX7_tick 92 = .ok (.iconst 1, 1) := by decide +kernel
theorem dX7_tick_93 : decode cX7_tick 93 = .ok (.goto 4, 3) := by decide +kernel
theorem dX7_tick_96 : decode cX7_tick 96 = .ok (.iconst 0, 1) := by decide +kernel
theorem dX7_tick_97 : decode cX7_tick 97 = .ok (.iadd, 1) := by decide +kernel
theorem dX7_tick_98 : decode cX7_tick 98 = .ok (.iastore, 1) := by decide +kernel
theorem dX7_tick_99 : decode cX7_tick 99 = .ok (.return_, 1) := by decide +kernel
set_option maxRecDepth 20000 in
theorem ggX7_advance_X7_in : GoodIn wsX7_advance wsX7_in := goodIn_r _ [7] (by decide +kernel) (by decide +kernel)
set_option maxRecDepth 20000 in
theorem gX7_advance_X7_in : GoodIn wsX7_advance (va_wsS RX7 35 yX7_in wsX7_in) := goodIn_app (goodIn_of _ (by decide +kernel)) ggX7_advance_X7_in
set_option maxRecDepth 20000 in
theorem ggX7_advance_X7_tick : GoodIn wsX7_advance wsX7_tick := goodIn_r _ [11, 3, 12, 13, 14, 6, 15, 16, 17, 18, 19, 20, 21, 22, 23, 24, 25, 26, 27, 28, 29, 30, 4, 5, 7, 31, 32, 33, 34, 35, 36, 37, 38, 39, 40, 41, 42, 43, 44, 45, 46, 47, 48, 49, 50, 51, 52, 53, 54, 55, 56, 57, 58, 59, 60, 61] (by decide +kernel) (by decide +kernel)
set_option maxRecDepth 20000 in
theorem gX7_advance_X7_tick : GoodIn wsX7_advance (wsV RX7 88 RX7 yX7_tick wsX7_tick) := goodIn_app (goodIn_of _ (by decide +kernel)) ggX7_advance_X7_tick
theorem dX7_advance_0 : decode cX7_advance 0 = .ok (.aload_n 0, 1) := by decide +kernel
theorem dX7_advance_1 : decode cX7_advance 1 = .ok (.iload_n 1, 1) := by decide +kernel
theorem dX7_advance_2 : decode cX7_advance 2 = .ok (.iconst 1, 1) := by decide +kernel
theorem dX7_advance_3 : decode cX7_advance 3 = .ok (.sipush 2000, 3) := by decide +kernel
theorem dX7_advance_6 : decode cX7_advance 6 = .ok (.invokestatic 35, 3) := by decide +kernel
theorem dX7_advance_9 : decode cX7_advance 9 = .ok (.ifCond .eq 7, 3) := by decide +kernel
theorem dX7_advance_12 : decode cX7_advance 12 = .ok (.iconst 0, 1) := by decide +kernel
theorem dX7_advance_13 : decode cX7_advance 13 = .ok (.goto 4, 3) := by decide +kernel
theorem dX7_advance_16 : decode cX7_advance 16 = .ok (.iconst 1, 1) := by decide +kernel
theorem dX7_advance_17 : decode cX7_advance 17 = .ok (.putfield 30, 3) := by decide +kernel
theorem dX7_advance_20 : decode cX7_advance 20 = .ok (.iconst 0, 1) := by decide +kernel
theorem dX7_advance_21 : decode cX7_advance 21 = .ok (.istore_n 2, 1) := by decide +kernel
theorem dX7_advance_22 : decode cX7_advance 22 = .ok (.iload_n 2, 1) := by decide +kernel
theorem dX7_advance_23 : decode cX7_advance 23 = .ok (.iload_n 1, 1) := by decide +kernel
theorem dX7_advance_24 : decode cX7_advance 24 = .ok (.if_icmp .ge 37, 3) := by decide +kernel
theorem dX7_advance_27 : decode cX7_advance 27 = .ok (.aload_n 0, 1) := by decide +kernel
theorem dX7_advance_28 : decode cX7_advance 28 = .ok (.getfield 30, 3) := by decide +kernel
theorem dX7_advance_31 : decode cX7_advance 31 = .ok (.ifCond .ne 30, 3) := by decide +kernel
theorem dX7_advance_34 : decode cX7_advance 34 = .ok (.aload_n 0, 1) := by decide +kernel
theorem dX7_advance_35 : decode cX7_advance 35 = .ok (.invokevirtual 88, 3) := by decide +kernel
theorem dX7_advance_38 : decode cX7_advance 38 = .ok (.aload_n 0, 1) := by decide +kernel
theorem dX7_advance_39 : decode cX7_advance 39 = .ok (.dup, 1) := by decide +kernel
theorem dX7_advance_40 : decode cX7_advance 40 = .ok (.getfield 91, 3) := by decide +kernel
theorem dX7_advance_43 : decode cX7_advance 43 = .ok (.aload_n 0, 1) := by decide +kernel
theorem dX7_advance_44 : decode cX7_advance 44 = .ok (.getfield 7, 3) := by decide +kernel
theorem dX7_advance_47 : decode cX7_advance 47 = .ok (.bipush 9, 2) := by decide +kernel
theorem dX7_advance_49 : decode cX7_advance 49 = .ok (.iaload, 1) := by decide +kernel
theorem dX7_advance_50 : decode cX7_advance 50 = .ok (.i2l, 1) := by decide +kernel
theorem dX7_advance_51 : decode cX7_advance 51 = .ok (.ladd, 1) := by decide +kernel
theorem dX7_advance_52 : decode cX7_advance 52 = .ok (.putfield 91, 3) := by decide +kernel
theorem dX7_advance_55 : decode cX7_advance 55 = .ok (.iinc 2 1, 3) := by decide +kernel
theorem dX7_advance_58 : decode cX7_advance 58 = .ok (.goto (-36), 3) := by decide +kernel
theorem dX7_advance_61 : decode cX7_advance 61 = .ok (.aload_n 0, 1) := by decide +kernel
theorem dX7_advance_62 : decode cX7_advance 62 = .ok (.getfield 30, 3) := by decide +kernel
theorem dX7_advance_65 : decode cX7_advance 65 = .ok (.ifCond .eq 7, 3) := by decide +kernel
theorem dX7_advance_68 : decode cX7_advance 68 = .ok (.iconst 0, 1) := by decide +kernel
theorem dX7_advance_69 : decode cX7_advance 69 = .ok (.goto 9, 3) := by decide +kernel
theorem dX7_advance_72 : decode cX7_advance 72 = .ok (.aload_n 0, 1) := by decide +kernel
theorem dX7_advance_73 : decode cX7_advance 73 = .ok (.getfield 7, 3) := by decide +kernel
theorem dX7_advance_76 : decode cX7_advance 76 = .ok (.iconst 0, 1) := by decide +kernel
theorem dX7_advance_77 : decode cX7_advance 77 = .ok (.iaload, 1) := by decide +kernel
theorem dX7_advance_78 : decode cX7_advance 78 = .ok (.ireturn, 1) := by decide +kernel
theorem dX7_state_0 : decode cX7_state 0 = .ok (.aload_n 0, 1) := by decide +kernel
theorem dX7_state_1 : decode cX7_state 1 = .ok (.iconst 0, 1) := by decide +kernel
theorem dX7_state_2 : decode cX7_state 2 = .ok (.putfield 30, 3) := by decide +kernel
theorem dX7_state_5 : decode cX7_state 5 = .ok (.aload_n 0, 1) := by decide +kernel
theorem dX7_state_6 : decode cX7_state 6 = .ok (.getfield 7, 3) := by decide +kernel
theorem dX7_state_9 : decode cX7_state 9 = .ok (.bipush 20, 2) := by decide +kernel
theorem dX7_state_11 : decode cX7_state 11 = .ok (.iaload, 1) := by decide +kernel
theorem dX7_state_12 : decode cX7_state 12 = .ok (.ireturn, 1) := by decide +kernel
set_option maxRecDepth 20000 in
theorem ggX7_isLocked_X7_hasLock : GoodIn wsX7_isLocked wsX7_hasLock := goodIn_r _ [6, 7, 8, 9, 10, 11, 12, 13, 14] (by decide +kernel) (by decide +kernel)
set_option maxRecDepth 20000 in
theorem gX7_isLocked_X7_hasLock : GoodIn wsX7_isLocked (wsV RX7 65 RX7 yX7_hasLock wsX7_hasLock) := goodIn_app (goodIn_of _ (by decide +kernel)) ggX7_isLocked_X7_hasLock
theorem dX7_isLocked_0 : decode cX7_isLocked 0 = .ok (.aload_n 0, 1) := by decide +kernel
theorem dX7_isLocked_1 : decode cX7_isLocked 1 = .ok (.iconst 0, 1) := by decide +kernel
theorem dX7_isLocked_2 : decode cX7_isLocked 2 = .ok (.putfield 30, 3) := by decide +kernel
theorem dX7_isLocked_5 : decode cX7_isLocked 5 = .ok (.aload_n 0, 1) := by decide +kernel
theorem dX7_isLocked_6 : decode cX7_isLocked 6 = .ok (.invokevirtual 65, 3) := by decide +kernel
theorem dX7_isLocked_9 : decode cX7_isLocked 9 = .ok (.ireturn, 1) := by decide +kernel
set_option maxRecDepth 20000 in
theorem ggX7_measure_X7_in : GoodIn wsX7_measure wsX7_in := goodIn_r _ [6] (by decide +kernel) (by decide +kernel)
set_option maxRecDepth 20000 in
theorem gX7_measure_X7_in : GoodIn wsX7_measure (va_wsS RX7 35 yX7_in wsX7_in) := goodIn_app (goodIn_of _ (by decide +kernel)) ggX7_measure_X7_in
theorem dX7_measure_0 : decode cX7_measure 0 = .ok (.aload_n 0, 1) := by decide +kernel
theorem dX7_measure_1 : decode cX7_measure 1 = .ok (.iload_n 1, 1) := by decide +kernel
theorem dX7_measure_2 : decode cX7_measure 2 = .ok (.iconst 0, 1) := by decide +kernel
theorem dX7_measure_3 : decode cX7_measure 3 = .ok (.bipush 9, 2) := by decide +kernel
theorem dX7_measure_5 : decode cX7_measure 5 = .ok (.invokestatic 35, 3) := by decide +kernel
theorem dX7_measure_8 : decode cX7_measure 8 = .ok (.ifCond .eq 7, 3) := by decide +kernel
theorem dX7_measure_11 : decode cX7_measure 11 = .ok (.iconst 0, 1) := by decide +kernel
theorem dX7_measure_12 : decode cX7_measure 12 = .ok (.goto 4, 3) := by decide +kernel
theorem dX7_measure_15 : decode cX7_measure 15 = .ok (.iconst 1, 1) := by decide +kernel
theorem dX7_measure_16 : decode cX7_measure 16 = .ok (.putfield 30, 3) := by decide +kernel
theorem dX7_measure_19 : decode cX7_measure 19 = .ok (.aload_n 0, 1) := by decide +kernel
theorem dX7_measure_20 : decode cX7_measure 20 = .ok (.getfield 30, 3) := by decide +kernel
theorem dX7_measure_23 : decode cX7_measure 23 = .ok (.ifCond .eq 7, 3) := by decide +kernel
theorem dX7_measure_26 : decode cX7_measure 26 = .ok (.iconst 0, 1) := by decide +kernel
theorem dX7_measure_27 : decode cX7_measure 27 = .ok (.goto 9, 3) := by decide +kernel
theorem dX7_measure_30 : decode cX7_measure 30 = .ok (.aload_n 0, 1) := by decide +kernel
theorem dX7_measure_31 : decode cX7_measure 31 = .ok (.getfield 7, 3) := by decide +kernel
theorem dX7_measure_34 : decode cX7_measure 34 = .ok (.iload_n 1, 1) := by decide +kernel
theorem dX7_measure_35 : decode cX7_measure 35 = .ok (.iaload, 1) := by decide +kernel
theorem dX7_measure_36 : decode cX7_measure 36 = .ok (.ireturn, 1) := by decide +kernel
set_option maxRecDepth 20000 in
theorem ggX7_violations_X7_in : GoodIn wsX7_violations wsX7_in := goodIn_r _ [6] (by decide +kernel) (by decide +kernel)
set_option maxRecDepth 20000 in
theorem gX7_violations_X7_in : GoodIn wsX7_violations (va_wsS RX7 35 yX7_in wsX7_in) := goodIn_app (goodIn_of _ (by decide +kernel)) ggX7_violations_X7_in
theorem dX7_violations_0 : decode cX7_violations 0 = .ok (.aload_n 0, 1) := by decide +kernel
theorem dX7_violations_1 : decode cX7_violations 1 = .ok (.iload_n 1, 1) := by decide +kernel
theorem dX7_violations_2 : decode cX7_violations 2 = .ok (.iconst 0, 1) := by decide +kernel
theorem dX7_violations_3 : decode cX7_violations 3 = .ok (.aload_n 0, 1) := by decide +kernel
theorem dX7_violations_4 : decode cX7_violations 4 = .ok (.getfield 7, 3) := by decide +kernel
theorem dX7_violations_7 : decode cX7_violations 7 = .ok (.bipush 30, 2) := by decide +kernel
theorem dX7_violations_9 : decode cX7_violations 9 = .ok (.iaload, 1) := by decide +kernel
theorem dX7_violations_10 : decode cX7_violations 10 = .ok (.iconst 1, 1) := by decide +kernel
theorem dX7_violations_11 : decode cX7_violations 11 = .ok (.isub, 1) := by decide +kernel
theorem dX7_violations_12 : decode cX7_violations 12 = .ok (.invokestatic 35, 3) := by decide +kernel
theorem dX7_violations_15 : decode cX7_violations 15 = .ok (.ifCond .eq 7, 3) := by decide +kernel
theorem dX7_violations_18 : decode cX7_violations 18 = .ok (.iconst 0, 1) := by decide +kernel
theorem dX7_violations_19 : decode cX7_violations 19 = .ok (.goto 4, 3) := by decide +kernel
theorem dX7_violations_22 : decode cX7_violations 22 = .ok (.iconst 1, 1) := by decide +kernel
theorem dX7_violations_23 : decode cX7_violations 23 = .ok (.putfield 30, 3) := by decide +kernel
theorem dX7_violations_26 : decode cX7_violations 26 = .ok (.aload_n 0, 1) := by decide +kernel
theorem dX7_violations_27 : decode cX7_violations 27 = .ok (.getfield 30, 3) := by decide +kernel
theorem dX7_violations_30 : decode cX7_violations 30 = .ok (.ifCond .eq 7, 3) := by decide +kernel
theorem dX7_violations_33 : decode cX7_violations 33 = .ok (.iconst 0, 1) := by decide +kernel
theorem dX7_violations_34 : decode cX7_violations 34 = .ok (.goto 12, 3) := by decide +kernel
theorem dX7_violations_37 : decode cX7_violations 37 = .ok (.aload_n 0, 1) := by decide +kernel
theorem dX7_violations_38 : decode cX7_violations 38 = .ok (.getfield 7, 3) := by decide +kernel
theorem dX7_violations_41 : decode cX7_violations 41 = .ok (.bipush 77, 2) := by decide +kernel
theorem dX7_violations_43 : decode cX7_violations 43 = .ok (.iload_n 1, 1) := by decide +kernel
theorem dX7_violations_44 : decode cX7_violations 44 = .ok (.iadd, 1) := by decide +kernel
theorem dX7_violations_45 : decode cX7_violations 45 = .ok (.iaload, 1) := by decide +kernel
theorem dX7_violations_46 : decode cX7_violations 46 = .ok (.ireturn, 1) := by decide +kernel
theorem dX7_energy_0 : decode cX7_energy 0 = .ok (.aload_n 0, 1) := by decide +kernel
theorem dX7_energy_1 : decode cX7_energy 1 = .ok (.iconst 0, 1) := by decide +kernel
theorem dX7_energy_2 : decode cX7_energy 2 = .ok (.putfield 30, 3) := by decide +kernel
theorem dX7_energy_5 : decode cX7_energy 5 = .ok (.aload_n 0, 1) := by decide +kernel
theorem dX7_energy_6 : decode cX7_energy 6 = .ok (.getfield 91, 3) := by decide +kernel
theorem dX7_energy_9 : decode cX7_energy 9 = .ok (.lreturn, 1) := by decide +kernel
theorem dX7_availability_0 : decode cX7_availability 0 = .ok (.aload_n 0, 1) := by decide +kernel
theorem dX7_availability_1 : decode cX7_availability 1 = .ok (.iconst 0, 1) := by decide +kernel
theorem dX7_availability_2 : decode cX7_availability 2 = .ok (.putfield 30, 3) := by decide +kernel
theorem dX7_availability_5 : decode cX7_availability 5 = .ok (.aload_n 0, 1) := by decide +kernel
theorem dX7_availability_6 : decode cX7_availability 6 = .ok (.getfield 7, 3) := by decide +kernel
theorem dX7_availability_9 : decode cX7_availability 9 = .ok (.iconst 0, 1) := by decide +kernel
theorem dX7_availability_10 : decode cX7_availability 10 = .ok (.iaload, 1) := by decide +kernel
theorem dX7_availability_11 : decode cX7_availability 11 = .ok (.ifCond .ne 7, 3) := by decide +kernel
theorem dX7_availability_14 : decode cX7_availability 14 = .ok (.dconst 0, 1) := by decide +kernel
theorem dX7_availability_15 : decode cX7_availability 15 = .ok (.goto 19, 3) := by decide +kernel
theorem dX7_availability_18 : decode cX7_availability 18 = .ok (.aload_n 0, 1) := by decide +kernel
theorem dX7_availability_19 : decode cX7_availability 19 = .ok (.getfield 7, 3) := by decide +kernel
theorem dX7_availability_22 : decode cX7_availability 22 = .ok (.bipush 31, 2) := by decide +kernel
theorem dX7_availability_24 : decode cX7_availability 24 = .ok (.iaload, 1) := by decide +kernel
theorem dX7_availability_25 : decode cX7_availability 25 = .ok (.i2d, 1) := by decide +kernel
theorem dX7_availability_26 : decode cX7_availability 26 = .ok (.aload_n 0, 1) := by decide +kernel
theorem dX7_availability_27 : decode cX7_availability 27 = .ok (.getfield 7, 3) := by decide +kernel
theorem dX7_availability_30 : decode cX7_availability 30 = .ok (.iconst 0, 1) := by decide +kernel
theorem dX7_availability_31 : decode cX7_availability 31 = .ok (.iaload, 1) := by decide +kernel
theorem dX7_availability_32 : decode cX7_availability 32 = .ok (.i2d, 1) := by decide +kernel
theorem dX7_availability_33 : decode cX7_availability 33 = .ok (.ddiv, 1) := by decide +kernel
theorem dX7_availability_34 : decode cX7_availability 34 = .ok (.dreturn, 1) := by decide +kernel
theorem dX7_events_0 : decode cX7_events 0 = .ok (.aload_n 0, 1) := by decide +kernel
theorem dX7_events_1 : decode cX7_events 1 = .ok (.iconst 0, 1) := by decide +kernel
theorem dX7_events_2 : decode cX7_events 2 = .ok (.putfield 30, 3) := by decide +kernel
theorem dX7_events_5 : decode cX7_events 5 = .ok (.aload_n 0, 1) := by decide +kernel
theorem dX7_events_6 : decode cX7_events 6 = .ok (.getfield 7, 3) := by decide +kernel
theorem dX7_events_9 : decode cX7_events 9 = .ok (.bipush 32, 2) := by decide +kernel
theorem dX7_events_11 : decode cX7_events 11 = .ok (.iaload, 1) := by decide +kernel
theorem dX7_events_12 : decode cX7_events 12 = .ok (.ireturn, 1) := by decide +kernel
set_option maxRecDepth 20000 in
theorem ggX7_event_X7_in : GoodIn wsX7_event wsX7_in := goodIn_r _ [6] (by decide +kernel) (by decide +kernel)
set_option maxRecDepth 20000 in
theorem gX7_event_X7_in : GoodIn wsX7_event (va_wsS RX7 35 yX7_in wsX7_in) := goodIn_app (goodIn_of _ (by decide +kernel)) ggX7_event_X7_in
theorem dX7_event_0 : decode cX7_event 0 = .ok (.aload_n 0, 1) := by decide +kernel
theorem dX7_event_1 : decode cX7_event 1 = .ok (.iload_n 2, 1) := by decide +kernel
theorem dX7_event_2 : decode cX7_event 2 = .ok (.iconst 0, 1) := by decide +kernel
theorem dX7_event_3 : decode cX7_event 3 = .ok (.iconst 1, 1) := by decide +kernel
theorem dX7_event_4 : decode cX7_event 4 = .ok (.invokestatic 35, 3) := by decide +kernel
theorem dX7_event_7 : decode cX7_event 7 = .ok (.ifCond .eq 7, 3) := by decide +kernel
theorem dX7_event_10 : decode cX7_event 10 = .ok (.iconst 0, 1) := by decide +kernel
theorem dX7_event_11 : decode cX7_event 11 = .ok (.goto 4, 3) := by decide +kernel
theorem dX7_event_14 : decode cX7_event 14 = .ok (.iconst 1, 1) := by decide +kernel
theorem dX7_event_15 : decode cX7_event 15 = .ok (.putfield 30, 3) := by decide +kernel
theorem dX7_event_18 : decode cX7_event 18 = .ok (.aload_n 0, 1) := by decide +kernel
theorem dX7_event_19 : decode cX7_event 19 = .ok (.getfield 30, 3) := by decide +kernel
theorem dX7_event_22 : decode cX7_event 22 = .ok (.ifCond .eq 5, 3) := by decide +kernel
theorem dX7_event_25 : decode cX7_event 25 = .ok (.iconst 0, 1) := by decide +kernel
theorem dX7_event_26 : decode cX7_event 26 = .ok (.ireturn, 1) := by decide +kernel
theorem dX7_event_27 : decode cX7_event 27 = .ok (.iload_n 1, 1) := by decide +kernel
theorem dX7_event_28 : decode cX7_event 28 = .ok (.iconst 0, 1) := by decide +kernel
theorem dX7_event_29 : decode cX7_event 29 = .ok (.aload_n 0, 1) := by decide +kernel
theorem dX7_event_30 : decode cX7_event 30 = .ok (.getfield 7, 3) := by decide +kernel
theorem dX7_event_33 : decode cX7_event 33 = .ok (.bipush 32, 2) := by decide +kernel
theorem dX7_event_35 : decode cX7_event 35 = .ok (.iaload, 1) := by decide +kernel
theorem dX7_event_36 : decode cX7_event 36 = .ok (.iconst 1, 1) := by decide +kernel
theorem dX7_event_37 : decode cX7_event 37 = .ok (.isub, 1) := by decide +kernel
theorem dX7_event_38 : decode cX7_event 38 = .ok (.invokestatic 35, 3) := by decide +kernel
theorem dX7_event_41 : decode cX7_event 41 = .ok (.ifCond .eq 17, 3) := by decide +kernel
theorem dX7_event_44 : decode cX7_event 44 = .ok (.iload_n 1, 1) := by decide +kernel
theorem dX7_event_45 : decode cX7_event 45 = .ok (.aload_n 0, 1) := by decide +kernel
theorem dX7_event_46 : decode cX7_event 46 = .ok (.getfield 7, 3) := by decide +kernel
theorem dX7_event_49 : decode cX7_event 49 = .ok (.bipush 32, 2) := by decide +kernel
theorem dX7_event_51 : decode cX7_event 51 = .ok (.iaload, 1) := by decide +kernel
theorem dX7_event_52 : decode cX7_event 52 = .ok (.bipush 40, 2) := by decide +kernel
theorem dX7_event_54 : decode cX7_event 54 = .ok (.isub, 1) := by decide +kernel
theorem dX7_event_55 : decode cX7_event 55 = .ok (.if_icmp .ge 5, 3) := by decide +kernel
theorem dX7_event_58 : decode cX7_event 58 = .ok (.iconst (-1), 1) := by decide +kernel
theorem dX7_event_59 : decode cX7_event 59 = .ok (.ireturn, 1) := by decide +kernel
theorem dX7_event_60 : decode cX7_event 60 = .ok (.aload_n 0, 1) := by decide +kernel
theorem dX7_event_61 : decode cX7_event 61 = .ok (.getfield 7, 3) := by decide +kernel
theorem dX7_event_64 : decode cX7_event 64 = .ok (.iload_n 2, 1) := by decide +kernel
theorem dX7_event_65 : decode cX7_event 65 = .ok (.ifCond .ne 8, 3) := by decide +kernel
theorem dX7_event_68 : decode cX7_event 68 = .ok (.bipush 85, 2) := by decide +kernel
theorem dX7_event_70 : decode cX7_event 70 = .ok (.goto 5, 3) := by decide +kernel
theorem dX7_event_73 : decode cX7_event 73 = .ok (.bipush 125, 2) := by decide +kernel
theorem dX7_event_75 : decode cX7_event 75 = .ok (.iload_n 1, 1) := by decide +kernel
theorem dX7_event_76 : decode cX7_event 76 = .ok (.bipush 40, 2) := by decide +kernel
theorem dX7_event_78 : decode cX7_event 78 = .ok (.irem, 1) := by decide +kernel
theorem dX7_event_79 : decode cX7_event 79 = .ok (.iadd, 1) := by decide +kernel
theorem dX7_event_80 : decode cX7_event 80 = .ok (.iaload, 1) := by decide +kernel
theorem dX7_event_81 : decode cX7_event 81 = .ok (.ireturn, 1) := by decide +kernel
theorem dX7_putAside_0 : decode cX7_putAside 0 = .ok (.iconst 0, 1) := by decide +kernel
theorem dX7_putAside_1 : decode cX7_putAside 1 = .ok (.istore_n 1, 1) := by decide +kernel
theorem dX7_putAside_2 : decode cX7_putAside 2 = .ok (.iload_n 1, 1) := by decide +kernel
theorem dX7_putAside_3 : decode cX7_putAside 3 = .ok (.sipush 165, 3) := by decide +kernel
theorem dX7_putAside_6 : decode cX7_putAside 6 = .ok (.if_icmp .ge 21, 3) := by decide +kernel
theorem dX7_putAside_9 : decode cX7_putAside 9 = .ok (.aload_n 0, 1) := by decide +kernel
theorem dX7_putAside_10 : decode cX7_putAside 10 = .ok (.getfield 13, 3) := by decide +kernel
theorem dX7_putAside_13 : decode cX7_putAside 13 = .ok (.iload_n 1, 1) := by decide +kernel
theorem dX7_putAside_14 : decode cX7_putAside 14 = .ok (.aload_n 0, 1) := by decide +kernel
theorem dX7_putAside_15 : decode cX7_putAside 15 = .ok (.getfield 7, 3) := by decide +kernel
theorem dX7_putAside_18 : decode cX7_putAside 18 = .ok (.iload_n 1, 1) := by decide +kernel
theorem dX7_putAside_19 : decode cX7_putAside 19 = .ok (.iaload, 1) := by decide +kernel
theorem dX7_putAside_20 : decode cX7_putAside 20 = .ok (.iastore, 1) := by decide +kernel
theorem dX7_putAside_21 : decode cX7_putAside 21 = .ok (.iinc 1 1, 3) := by decide +kernel
theorem dX7_putAside_24 : decode cX7_putAside 24 = .ok (.goto (-22), 3) := by decide +kernel
theorem dX7_putAside_27 : decode cX7_putAside 27 = .ok (.return_, 1) := by decide +kernel
theorem dX7_putBack_0 : decode cX7_putBack 0 = .ok (.iconst 0, 1) := by decide +kernel
theorem dX7_putBack_1 : decode cX7_putBack 1 = .ok (.istore_n 1, 1) := by decide +kernel
theorem dX7_putBack_2 : decode cX7_putBack 2 = .ok (.iload_n 1, 1) := by decide +kernel
theorem dX7_putBack_3 : decode cX7_putBack 3 = .ok (.sipush 165, 3) := by decide +kernel
theorem dX7_putBack_6 : decode cX7_putBack 6 = .ok (.if_icmp .ge 21, 3) := by decide +kernel
theorem dX7_putBack_9 : decode cX7_putBack 9 = .ok (.aload_n 0, 1) := by decide +kernel
theorem dX7_putBack_10 : decode cX7_putBack 10 = .ok (.getfield 7, 3) := by decide +kernel
theorem dX7_putBack_13 : decode cX7_putBack 13 = .ok (.iload_n 1, 1) := by decide +kernel
theorem dX7_putBack_14 : decode cX7_putBack 14 = .ok (.aload_n 0, 1) := by decide +kernel
theorem dX7_putBack_15 : decode cX7_putBack 15 = .ok (.getfield 13, 3) := by decide +kernel
theorem dX7_putBack_18 : decode cX7_putBack 18 = .ok (.iload_n 1, 1) := by decide +kernel
theorem dX7_putBack_19 : decode cX7_putBack 19 = .ok (.iaload, 1) := by decide +kernel
theorem dX7_putBack_20 : decode cX7_putBack 20 = .ok (.iastore, 1) := by decide +kernel
theorem dX7_putBack_21 : decode cX7_putBack 21 = .ok (.iinc 1 1, 3) := by decide +kernel
theorem dX7_putBack_24 : decode cX7_putBack 24 = .ok (.goto (-22), 3) := by decide +kernel
theorem dX7_putBack_27 : decode cX7_putBack 27 = .ok (.return_, 1) := by decide +kernel
set_option maxRecDepth 20000 in
theorem ggX7_tryIsland_X7_putAside : GoodIn wsX7_tryIsland wsX7_putAside := goodIn_r _ [6, 7, 1, 66, 67, 68, 69, 70, 71, 72] (by decide +kernel) (by decide +kernel)
set_option maxRecDepth 20000 in
theorem gX7_tryIsland_X7_putAside : GoodIn wsX7_tryIsland (wsV RX7 95 RX7 yX7_putAside wsX7_putAside) := goodIn_app (goodIn_of _ (by decide +kernel)) ggX7_tryIsland_X7_putAside
set_option maxRecDepth 20000 in
theorem ggX7_tryIsland_X7_becomeIsland : GoodIn wsX7_tryIsland wsX7_becomeIsland := goodIn_r _ [11, 1, 66, 67, 68, 69, 70, 71, 72] (by decide +kernel) (by decide +kernel)
set_option maxRecDepth 20000 in
theorem gX7_tryIsland_X7_becomeIsland : GoodIn wsX7_tryIsland (wsV RX7 50 RX7 yX7_becomeIsland wsX7_becomeIsland) := goodIn_app (goodIn_of _ (by decide +kernel)) ggX7_tryIsland_X7_becomeIsland
set_option maxRecDepth 20000 in
theorem ggX7_tryIsland_X7_tick : GoodIn wsX7_tryIsland wsX7_tick := goodIn_r _ [15, 1, 16, 17, 18, 5, 19, 20, 21, 22, 23, 24, 25, 26, 27, 28, 29, 30, 31, 32, 33, 34, 35, 36, 37, 38, 39, 40, 41, 42, 43, 44, 45, 46, 47, 48, 49, 50, 51, 52, 53, 54, 55, 56, 57, 58, 59, 60, 61, 66, 67, 68, 69, 70, 71, 72] (by decide +kernel) (by decide +kernel)
set_option maxRecDepth 20000 in
theorem gX7_tryIsland_X7_tick : GoodIn wsX7_tryIsland (wsV RX7 88 RX7 yX7_tick wsX7_tick) := goodIn_app (goodIn_of _ (by decide +kernel)) ggX7_tryIsland_X7_tick
set_option maxRecDepth 20000 in
theorem ggX7_tryIsland_X7_putBack : GoodIn wsX7_tryIsland wsX7_putBack := goodIn_r _ [65, 1, 7, 66, 67, 68, 69, 70, 71, 72] (by decide +kernel) (by decide +kernel)
set_option maxRecDepth 20000 in
theorem gX7_tryIsland_X7_putBack : GoodIn wsX7_tryIsland (wsV RX7 98 RX7 yX7_putBack wsX7_putBack) := goodIn_app (goodIn_of _ (by decide +kernel)) ggX7_tryIsland_X7_putBack
theorem dX7_tryIsland_0 : decode cX7_tryIsland 0 = .ok (.aload_n 0, 1) := by decide +kernel
theorem dX7_tryIsland_1 : decode cX7_tryIsland 1 = .ok (.invokevirtual 95, 3) := by decide +kernel
theorem dX7_tryIsland_4 : decode cX7_tryIsland 4 = .ok (.aload_n 0, 1) := by decide +kernel
theorem dX7_tryIsland_5 : decode cX7_tryIsland 5 = .ok (.iload_n 1, 1) := by decide +kernel
theorem dX7_tryIsland_6 : decode cX7_tryIsland 6 = .ok (.iload_n 2, 1) := by decide +kernel
theorem dX7_tryIsland_7 : decode cX7_tryIsland 7 = .ok (.iload_n 3, 1) := by decide +kernel
theorem dX7_tryIsland_8 : decode cX7_tryIsland 8 = .ok (.invokevirtual 50, 3) := by decide +kernel
theorem dX7_tryIsland_11 : decode cX7_tryIsland 11 = .ok (.aload_n 0, 1) := by decide +kernel
theorem dX7_tryIsland_12 : decode cX7_tryIsland 12 = .ok (.getfield 7, 3) := by decide +kernel
theorem dX7_tryIsland_15 : decode cX7_tryIsland 15 = .ok (.bipush 10, 2) := by decide +kernel
theorem dX7_tryIsland_17 : decode cX7_tryIsland 17 = .ok (.iconst 0, 1) := by decide +kernel
theorem dX7_tryIsland_18 : decode cX7_tryIsland 18 = .ok (.iastore, 1) := by decide +kernel
theorem dX7_tryIsland_19 : decode cX7_tryIsland 19 = .ok (.iconst 0, 1) := by decide +kernel
theorem dX7_tryIsland_20 : decode cX7_tryIsland 20 = .ok (.istore 5, 2) := by decide +kernel
theorem dX7_tryIsland_22 : decode cX7_tryIsland 22 = .ok (.iload 5, 2) := by decide +kernel
theorem dX7_tryIsland_24 : decode cX7_tryIsland 24 = .ok (.iload 4, 2) := by decide +kernel
theorem dX7_tryIsland_26 : decode cX7_tryIsland 26 = .ok (.if_icmp .ge 24, 3) := by decide +kernel
theorem dX7_tryIsland_29 : decode cX7_tryIsland 29 = .ok (.aload_n 0, 1) := by decide +kernel
theorem dX7_tryIsland_30 : decode cX7_tryIsland 30 = .ok (.getfield 7, 3) := by decide +kernel
theorem dX7_tryIsland_33 : decode cX7_tryIsland 33 = .ok (.bipush 20, 2) := by decide +kernel
theorem dX7_tryIsland_35 : decode cX7_tryIsland 35 = .ok (.iaload, 1) := by decide +kernel
theorem dX7_tryIsland_36 : decode cX7_tryIsland 36 = .ok (.iconst 1, 1) := by decide +kernel
theorem dX7_tryIsland_37 : decode cX7_tryIsland 37 = .ok (.if_icmp .ne 13, 3) := by decide +kernel
theorem dX7_tryIsland_40 : decode cX7_tryIsland 40 = .ok (.aload_n 0, 1) := by decide +kernel
theorem dX7_tryIsland_41 : decode cX7_tryIsland 41 = .ok (.invokevirtual 88, 3) := by decide +kernel
theorem dX7_tryIsland_44 : decode cX7_tryIsland 44 = .ok (.iinc 5 1, 3) := by decide +kernel
theorem dX7_tryIsland_47 : decode cX7_tryIsland 47 = .ok (.goto (-25), 3) := by decide +kernel
theorem dX7_tryIsland_50 : decode cX7_tryIsland 50 = .ok (.aload_n 0, 1) := by decide +kernel
theorem dX7_tryIsland_51 : decode cX7_tryIsland 51 = .ok (.getfield 7, 3) := by decide +kernel
theorem dX7_tryIsland_54 : decode cX7_tryIsland 54 = .ok (.bipush 20, 2) := by decide +kernel
theorem dX7_tryIsland_56 : decode cX7_tryIsland 56 = .ok (.iaload, 1) := by decide +kernel
theorem dX7_tryIsland_57 : decode cX7_tryIsland 57 = .ok (.iconst 1, 1) := by decide +kernel
theorem dX7_tryIsland_58 : decode cX7_tryIsland 58 = .ok (.if_icmp .ne 7, 3) := by decide +kernel
theorem dX7_tryIsland_61 : decode cX7_tryIsland 61 = .ok (.iconst (-1), 1) := by decide +kernel
theorem dX7_tryIsland_62 : decode cX7_tryIsland 62 = .ok (.goto 5, 3) := by decide +kernel
theorem dX7_tryIsland_65 : decode cX7_tryIsland 65 = .ok (.iload 5, 2) := by decide +kernel
theorem dX7_tryIsland_67 : decode cX7_tryIsland 67 = .ok (.istore 6, 2) := by decide +kernel
theorem dX7_tryIsland_69 : decode cX7_tryIsland 69 = .ok (.aload_n 0, 1) := by decide +kernel
theorem dX7_tryIsland_70 : decode cX7_tryIsland 70 = .ok (.invokevirtual 98, 3) := by decide +kernel
theorem dX7_tryIsland_73 : decode cX7_tryIsland 73 = .ok (.iload 6, 2) := by decide +kernel
theorem dX7_tryIsland_75 : decode cX7_tryIsland 75 = .ok (.ireturn, 1) := by decide +kernel
set_option maxRecDepth 20000 in
theorem ggX7_islandTime_X7_isIsland : GoodIn wsX7_islandTime wsX7_isIsland := goodIn_r _ [6, 7, 8, 9, 10, 5, 11] (by decide +kernel) (by decide +kernel)
set_option maxRecDepth 20000 in
theorem gX7_islandTime_X7_isIsland : GoodIn wsX7_islandTime (va_wsS RX7 47 yX7_isIsland wsX7_isIsland) := goodIn_app (goodIn_of _ (by decide +kernel)) ggX7_islandTime_X7_isIsland
set_option maxRecDepth 20000 in
theorem ggX7_islandTime_X7_in : GoodIn wsX7_islandTime wsX7_in := goodIn_r _ [11] (by decide +kernel) (by decide +kernel)
set_option maxRecDepth 20000 in
theorem gX7_islandTime_X7_in : GoodIn wsX7_islandTime (va_wsS RX7 35 yX7_in wsX7_in) := goodIn_app (goodIn_of _ (by decide +kernel)) ggX7_islandTime_X7_in
set_option maxRecDepth 20000 in
theorem ggX7_islandTime_X7_tryIsland : GoodIn wsX7_islandTime wsX7_tryIsland := goodIn_r _ [15, 1, 16, 17, 18, 5, 19, 20, 21, 22, 23, 24, 25, 26, 27, 28, 29, 30, 31, 32, 33, 34, 35, 36, 37, 38, 39, 40, 41, 42, 43, 44, 45, 46, 47, 9, 10, 11, 48, 49, 50, 51, 52, 53, 54, 55, 56, 57, 58, 59, 60, 61, 62, 63, 64, 65, 66, 67, 68, 69, 70, 71, 72, 73, 74, 75, 76, 77, 78, 79, 80, 81, 82] (by decide +kernel) (by decide +kernel)
set_option maxRecDepth 20000 in
theorem gX7_islandTime_X7_tryIsland : GoodIn wsX7_islandTime (wsV RX7 101 RX7 yX7_tryIsland wsX7_tryIsland) := goodIn_app (goodIn_of _ (by decide +kernel)) ggX7_islandTime_X7_tryIsland
theorem dX7_islandTime_0 : decode cX7_islandTime 0 = .ok (.aload_n 0, 1) := by decide +kernel
theorem dX7_islandTime_1 : decode cX7_islandTime 1 = .ok (.iload_n 1, 1) := by decide +kernel
theorem dX7_islandTime_2 : decode cX7_islandTime 2 = .ok (.iload_n 2, 1) := by decide +kernel
theorem dX7_islandTime_3 : decode cX7_islandTime 3 = .ok (.iload_n 3, 1) := by decide +kernel
theorem dX7_islandTime_4 : decode cX7_islandTime 4 = .ok (.invokestatic 47, 3) := by decide +kernel
theorem dX7_islandTime_7 : decode cX7_islandTime 7 = .ok (.ifCond .eq 15, 3) := by decide +kernel
theorem dX7_islandTime_10 : decode cX7_islandTime 10 = .ok (.iload 4, 2) := by decide +kernel
theorem dX7_islandTime_12 : decode cX7_islandTime 12 = .ok (.iconst 1, 1) := by decide +kernel
theorem dX7_islandTime_13 : decode cX7_islandTime 13 = .ok (.sipush 2000, 3) := by decide +kernel
theorem dX7_islandTime_16 : decode cX7_islandTime 16 = .ok (.invokestatic 35, 3) := by decide +kernel
theorem dX7_islandTime_19 : decode cX7_islandTime 19 = .ok (.ifCond .ne 7, 3) := by decide +kernel
theorem dX7_islandTime_22 : decode cX7_islandTime 22 = .ok (.iconst 1, 1) := by decide +kernel
theorem dX7_islandTime_23 : decode cX7_islandTime 23 = .ok (.goto 19, 3) := by decide +kernel
theorem dX7_islandTime_26 : decode cX7_islandTime 26 = .ok (.aload_n 0, 1) := by decide +kernel
theorem dX7_islandTime_27 : decode cX7_islandTime 27 = .ok (.getfield 7, 3) := by decide +kernel
theorem dX7_islandTime_30 : decode cX7_islandTime 30 = .ok (.bipush 20, 2) := by decide +kernel
theorem dX7_islandTime_32 : decode cX7_islandTime 32 = .ok (.iaload, 1) := by decide +kernel
theorem dX7_islandTime_33 : decode cX7_islandTime 33 = .ok (.iconst 1, 1) := by decide +kernel
theorem dX7_islandTime_34 : decode cX7_islandTime 34 = .ok (.if_icmp .eq 7, 3) := by decide +kernel
theorem dX7_islandTime_37 : decode cX7_islandTime 37 = .ok (.iconst 2, 1) := by decide +kernel
theorem dX7_islandTime_38 : decode cX7_islandTime 38 = .ok (.goto 4, 3) := by decide +kernel
theorem dX7_islandTime_41 : decode cX7_islandTime 41 = .ok (.iconst 0, 1) := by decide +kernel
theorem dX7_islandTime_42 : decode cX7_islandTime 42 = .ok (.putfield 30, 3) := by decide +kernel
theorem dX7_islandTime_45 : decode cX7_islandTime 45 = .ok (.aload_n 0, 1) := by decide +kernel
theorem dX7_islandTime_46 : decode cX7_islandTime 46 = .ok (.getfield 30, 3) := by decide +kernel
theorem dX7_islandTime_49 : decode cX7_islandTime 49 = .ok (.ifCond .eq 7, 3) := by decide +kernel
theorem dX7_islandTime_52 : decode cX7_islandTime 52 = .ok (.iconst 0, 1) := by decide +kernel
theorem dX7_islandTime_53 : decode cX7_islandTime 53 = .ok (.goto 12, 3) := by decide +kernel
theorem dX7_islandTime_56 : decode cX7_islandTime 56 = .ok (.aload_n 0, 1) := by decide +kernel
theorem dX7_islandTime_57 : decode cX7_islandTime 57 = .ok (.iload_n 1, 1) := by decide +kernel
theorem dX7_islandTime_58 : decode cX7_islandTime 58 = .ok (.iload_n 2, 1) := by decide +kernel
theorem dX7_islandTime_59 : decode cX7_islandTime 59 = .ok (.iload_n 3, 1) := by decide +kernel
theorem dX7_islandTime_60 : decode cX7_islandTime 60 = .ok (.iload 4, 2) := by decide +kernel
theorem dX7_islandTime_62 : decode cX7_islandTime 62 = .ok (.invokevirtual 101, 3) := by decide +kernel
theorem dX7_islandTime_65 : decode cX7_islandTime 65 = .ok (.ireturn, 1) := by decide +kernel
set_option maxRecDepth 20000 in
theorem ggX7_undetected_X7_in : GoodIn wsX7_undetected wsX7_in := goodIn_r _ [6] (by decide +kernel) (by decide +kernel)
set_option maxRecDepth 20000 in
theorem gX7_undetected_X7_in : GoodIn wsX7_undetected (va_wsS RX7 35 yX7_in wsX7_in) := goodIn_app (goodIn_of _ (by decide +kernel)) ggX7_undetected_X7_in
set_option maxRecDepth 20000 in
theorem ggX7_undetected_X7_tryIsland : GoodIn wsX7_undetected wsX7_tryIsland := goodIn_r _ [10, 1, 11, 12, 13, 5, 14, 15, 16, 17, 18, 19, 20, 21, 22, 23, 24, 25, 26, 27, 28, 29, 30, 31, 32, 33, 34, 35, 36, 37, 38, 39, 40, 41, 42, 3, 4, 6, 43, 44, 45, 46, 47, 48, 49, 50, 51, 52, 53, 54, 55, 56, 57, 58, 59, 60, 61, 62, 63, 64, 65, 66, 67, 68, 69, 70, 71, 72, 73, 74, 75, 76, 77] (by decide +kernel) (by decide +kernel)
set_option maxRecDepth 20000 in
theorem gX7_undetected_X7_tryIsland : GoodIn wsX7_undetected (wsV RX7 101 RX7 yX7_tryIsland wsX7_tryIsland) := goodIn_app (goodIn_of _ (by decide +kernel)) ggX7_undetected_X7_tryIsland
theorem dX7_undetected_0 : decode cX7_undetected 0 = .ok (.iload_n 1, 1) := by decide +kernel
theorem dX7_undetected_1 : decode cX7_undetected 1 = .ok (.iconst 1, 1) := by decide +kernel
theorem dX7_undetected_2 : decode cX7_undetected 2 = .ok (.sipush 5000, 3) := by decide +kernel
theorem dX7_undetected_5 : decode cX7_undetected 5 = .ok (.invokestatic 35, 3) := by decide +kernel
theorem dX7_undetected_8 : decode cX7_undetected 8 = .ok (.ifCond .eq 53, 3) := by decide +kernel
theorem dX7_undetected_11 : decode cX7_undetected 11 = .ok (.iload_n 2, 1) := by decide +kernel
theorem dX7_undetected_12 : decode cX7_undetected 12 = .ok (.iconst 1, 1) := by decide +kernel
theorem dX7_undetected_13 : decode cX7_undetected 13 = .ok (.sipush 500, 3) := by decide +kernel
theorem dX7_undetected_16 : decode cX7_undetected 16 = .ok (.invokestatic 35, 3) := by decide +kernel
theorem dX7_undetected_19 : decode cX7_undetected 19 = .ok (.ifCond .eq 42, 3) := by decide +kernel
theorem dX7_undetected_22 : decode cX7_undetected 22 = .ok (.iload_n 3, 1) := by decide +kernel
theorem dX7_undetected_23 : decode cX7_undetected 23 = .ok (.iconst 1, 1) := by decide +kernel
theorem dX7_undetected_24 : decode cX7_undetected 24 = .ok (.bipush 10, 2) := by decide +kernel
theorem dX7_undetected_26 : decode cX7_undetected 26 = .ok (.invokestatic 35, 3) := by decide +kernel
theorem dX7_undetected_29 : decode cX7_undetected 29 = .ok (.ifCond .eq 32, 3) := by decide +kernel
theorem dX7_undetected_32 : decode cX7_undetected 32 = .ok (.iload 4, 2) := by decide +kernel
theorem dX7_undetected_34 : decode cX7_undetected 34 = .ok (.iconst 1, 1) := by decide +kernel
theorem dX7_undetected_35 : decode cX7_undetected 35 = .ok (.sipush 500, 3) := by decide +kernel
theorem dX7_undetected_38 : decode cX7_undetected 38 = .ok (.invokestatic 35, 3) := by decide +kernel
theorem dX7_undetected_41 : decode cX7_undetected 41 = .ok (.ifCond .eq 20, 3) := by decide +kernel
theorem dX7_undetected_44 : decode cX7_undetected 44 = .ok (.iload_n 1, 1) := by decide +kernel
theorem dX7_undetected_45 : decode cX7_undetected 45 = .ok (.iload_n 3, 1) := by decide +kernel
theorem dX7_undetected_46 : decode cX7_undetected 46 = .ok (.iconst 1, 1) := by decide +kernel
theorem dX7_undetected_47 : decode cX7_undetected 47 = .ok (.isub, 1) := by decide +kernel
theorem dX7_undetected_48 : decode cX7_undetected 48 = .ok (.iload_n 2, 1) := by decide +kernel
theorem dX7_undetected_49 : decode cX7_undetected 49 = .ok (.imul, 1) := by decide +kernel
theorem dX7_undetected_50 : decode cX7_undetected 50 = .ok (.iadd, 1) := by decide +kernel
theorem dX7_undetected_51 : decode cX7_undetected 51 = .ok (.sipush 5000, 3) := by decide +kernel
theorem dX7_undetected_54 : decode cX7_undetected 54 = .ok (.if_icmp .gt 7, 3) := by decide +kernel
theorem dX7_undetected_57 : decode cX7_undetected 57 = .ok (.iconst 1, 1) := by decide +kernel
theorem dX7_undetected_58 : decode cX7_undetected 58 = .ok (.goto 4, 3) := by decide +kernel
theorem dX7_undetected_61 : decode cX7_undetected 61 = .ok (.iconst 0, 1) := by decide +kernel
theorem dX7_undetected_62 : decode cX7_undetected 62 = .ok (.istore 5, 2) := by decide +kernel
theorem dX7_undetected_64 : decode cX7_undetected 64 = .ok (.aload_n 0, 1) := by decide +kernel
theorem dX7_undetected_65 : decode cX7_undetected 65 = .ok (.iload 5, 2) := by decide +kernel
theorem dX7_undetected_67 : decode cX7_undetected 67 = .ok (.ifCond .ne 7, 3) := by decide +kernel
theorem dX7_undetected_70 : decode cX7_undetected 70 = .ok (.iconst 1, 1) := by decide +kernel
theorem dX7_undetected_71 : decode cX7_undetected 71 = .ok (.goto 19, 3) := by decide +kernel
theorem dX7_undetected_74 : decode cX7_undetected 74 = .ok (.aload_n 0, 1) := by decide +kernel
theorem dX7_undetected_75 : decode cX7_undetected 75 = .ok (.getfield 7, 3) := by decide +kernel
theorem dX7_undetected_78 : decode cX7_undetected 78 = .ok (.bipush 20, 2) := by decide +kernel
theorem dX7_undetected_80 : decode cX7_undetected 80 = .ok (.iaload, 1) := by decide +kernel
theorem dX7_undetected_81 : decode cX7_undetected 81 = .ok (.iconst 1, 1) := by decide +kernel
theorem dX7_undetected_82 : decode cX7_undetected 82 = .ok (.if_icmp .eq 7, 3) := by decide +kernel
theorem dX7_undetected_85 : decode cX7_undetected 85 = .ok (.iconst 2, 1) := by decide +kernel
theorem dX7_undetected_86 : decode cX7_undetected 86 = .ok (.goto 4, 3) := by decide +kernel
theorem dX7_undetected_89 : decode cX7_undetected 89 = .ok (.iconst 0, 1) := by decide +kernel
theorem dX7_undetected_90 : decode cX7_undetected 90 = .ok (.putfield 30, 3) := by decide +kernel
theorem dX7_undetected_93 : decode cX7_undetected 93 = .ok (.iconst 0, 1) := by decide +kernel
theorem dX7_undetected_94 : decode cX7_undetected 94 = .ok (.istore 6, 2) := by decide +kernel
theorem dX7_undetected_96 : decode cX7_undetected 96 = .ok (.iconst 0, 1) := by decide +kernel
theorem dX7_undetected_97 : decode cX7_undetected 97 = .ok (.istore 7, 2) := by decide +kernel
theorem dX7_undetected_99 : decode cX7_undetected 99 = .ok (.iload 7, 2) := by decide +kernel
theorem dX7_undetected_101 : decode cX7_undetected 101 = .ok (.iload_n 3, 1) := by decide +kernel
theorem dX7_undetected_102 : decode cX7_undetected 102 = .ok (.if_icmp .ge 56, 3) := by decide +kernel
theorem dX7_undetected_105 : decode cX7_undetected 105 = .ok (.aload_n 0, 1) := by decide +kernel
theorem dX7_undetected_106 : decode cX7_undetected 106 = .ok (.getfield 30, 3) := by decide +kernel
theorem dX7_undetected_109 : decode cX7_undetected 109 = .ok (.ifCond .ne 49, 3) := by decide +kernel
theorem dX7_undetected_112 : decode cX7_undetected 112 = .ok (.iload 6, 2) := by decide +kernel
theorem dX7_undetected_114 : decode cX7_undetected 114 = .ok (.aload_n 0, 1) := by decide +kernel
theorem dX7_undetected_115 : decode cX7_undetected 115 = .ok (.iload_n 1, 1) := by decide +kernel
theorem dX7_undetected_116 : decode cX7_undetected 116 = .ok (.iload 7, 2) := by decide +kernel
theorem dX7_undetected_118 : decode cX7_undetected 118 = .ok (.iload_n 2, 1) := by decide +kernel
theorem dX7_undetected_119 : decode cX7_undetected 119 = .ok (.imul, 1) := by decide +kernel
theorem dX7_undetected_120 : decode cX7_undetected 120 = .ok (.iadd, 1) := by decide +kernel
theorem dX7_undetected_121 : decode cX7_undetected 121 = .ok (.aload_n 0, 1) := by decide +kernel
theorem dX7_undetected_122 : decode cX7_undetected 122 = .ok (.getfield 7, 3) := by decide +kernel
theorem dX7_undetected_125 : decode cX7_undetected 125 = .ok (.bipush 14, 2) := by decide +kernel
theorem dX7_undetected_127 : decode cX7_undetected 127 = .ok (.iaload, 1) := by decide +kernel
theorem dX7_undetected_128 : decode cX7_undetected 128 = .ok (.aload_n 0, 1) := by decide +kernel
theorem dX7_undetected_129 : decode cX7_undetected 129 = .ok (.getfield 7, 3) := by decide +kernel
theorem dX7_undetected_132 : decode cX7_undetected 132 = .ok (.bipush 15, 2) := by decide +kernel
theorem dX7_undetected_134 : decode cX7_undetected 134 = .ok (.iaload, 1) := by decide +kernel
theorem dX7_undetected_135 : decode cX7_undetected 135 = .ok (.iload 4, 2) := by decide +kernel
theorem dX7_undetected_137 : decode cX7_undetected 137 = .ok (.invokevirtual 101, 3) := by decide +kernel
theorem dX7_undetected_140 : decode cX7_undetected 140 = .ok (.iconst (-1), 1) := by decide +kernel
theorem dX7_undetected_141 : decode cX7_undetected 141 = .ok (.if_icmp .ne 7, 3) := by decide +kernel
theorem dX7_undetected_144 : decode cX7_undetected 144 = .ok (.iconst 1, 1) := by decide +kernel
theorem dX7_undetected_145 : decode cX7_undetected 145 = .ok (.goto 4, 3) := by decide +kernel
theorem dX7_undetected_148 : decode cX7_undetected 148 = .ok (.iconst 0, 1) := by decide +kernel
theorem dX7_undetected_149 : decode cX7_undetected 149 = .ok (.iadd, 1) := by decide +kernel
theorem dX7_undetected_150 : decode cX7_undetected 150 = .ok (.istore 6, 2) := by decide +kernel
theorem dX7_undetected_152 : decode cX7_undetected 152 = .ok (.iinc 7 1, 3) := by decide +kernel
theorem dX7_undetected_155 : decode cX7_undetected 155 = .ok (.goto (-56), 3) := by decide +kernel
theorem dX7_undetected_158 : decode cX7_undetected 158 = .ok (.iload 6, 2) := by decide +kernel
theorem dX7_undetected_160 : decode cX7_undetected 160 = .ok (.ireturn, 1) := by decide +kernel
set_option maxRecDepth 20000 in
theorem ggX7_relockTime_X7_in : GoodIn wsX7_relockTime wsX7_in := goodIn_r _ [8] (by decide +kernel) (by decide +kernel)
set_option maxRecDepth 20000 in
theorem gX7_relockTime_X7_in : GoodIn wsX7_relockTime (va_wsS RX7 35 yX7_in wsX7_in) := goodIn_app (goodIn_of _ (by decide +kernel)) ggX7_relockTime_X7_in
set_option maxRecDepth 20000 in
theorem ggX7_relockTime_X7_putAside : GoodIn wsX7_relockTime wsX7_putAside := goodIn_r _ [12, 13, 4, 64, 65, 66, 67, 68, 69, 70] (by decide +kernel) (by decide +kernel)
set_option maxRecDepth 20000 in
theorem gX7_relockTime_X7_putAside : GoodIn wsX7_relockTime (wsV RX7 95 RX7 yX7_putAside wsX7_putAside) := goodIn_app (goodIn_of _ (by decide +kernel)) ggX7_relockTime_X7_putAside
set_option maxRecDepth 20000 in
theorem ggX7_relockTime_X7_round : GoodIn wsX7_relockTime wsX7_round := goodIn_r _ [16, 17] (by decide +kernel) (by decide +kernel)
set_option maxRecDepth 20000 in
theorem gX7_relockTime_X7_round : GoodIn wsX7_relockTime (va_wsS RX7 43 yX7_round wsX7_round) := goodIn_app (goodIn_of _ (by decide +kernel)) ggX7_relockTime_X7_round
set_option maxRecDepth 20000 in
theorem ggX7_relockTime_X7_hasLock : GoodIn wsX7_relockTime wsX7_hasLock := goodIn_r _ [21, 4, 64, 65, 66, 67, 68, 69, 70] (by decide +kernel) (by decide +kernel)
set_option maxRecDepth 20000 in
theorem gX7_relockTime_X7_hasLock : GoodIn wsX7_relockTime (wsV RX7 65 RX7 yX7_hasLock wsX7_hasLock) := goodIn_app (goodIn_of _ (by decide +kernel)) ggX7_relockTime_X7_hasLock
set_option maxRecDepth 20000 in
theorem ggX7_relockTime_X7_tick : GoodIn wsX7_relockTime wsX7_tick := goodIn_r _ [25, 4, 26, 27, 28, 7, 29, 30, 31, 32, 33, 34, 35, 14, 15, 16, 17, 36, 37, 38, 39, 2, 5, 6, 8, 40, 41, 42, 43, 18, 19, 20, 21, 44, 45, 46, 47, 48, 49, 50, 51, 52, 53, 54, 55, 56, 57, 58, 59, 64, 65, 66, 67, 68, 69, 70] (by decide +kernel) (by decide +kernel)
set_option maxRecDepth 20000 in
theorem gX7_relockTime_X7_tick : GoodIn wsX7_relockTime (wsV RX7 88 RX7 yX7_tick wsX7_tick) := goodIn_app (goodIn_of _ (by decide +kernel)) ggX7_relockTime_X7_tick
set_option maxRecDepth 20000 in
theorem ggX7_relockTime_X7_putBack : GoodIn wsX7_relockTime wsX7_putBack := goodIn_r _ [63, 4, 13, 64, 65, 66, 67, 68, 69, 70] (by decide +kernel) (by decide +kernel)
set_option maxRecDepth 20000 in
theorem gX7_relockTime_X7_putBack : GoodIn wsX7_relockTime (wsV RX7 98 RX7 yX7_putBack wsX7_putBack) := goodIn_app (goodIn_of _ (by decide +kernel)) ggX7_relockTime_X7_putBack
theorem dX7_relockTime_0 : decode cX7_relockTime 0 = .ok (.aload_n 0, 1) := by decide +kernel
theorem dX7_relockTime_1 : decode cX7_relockTime 1 = .ok (.iload_n 1, 1) := by decide +kernel
theorem dX7_relockTime_2 : decode cX7_relockTime 2 = .ok (.ldc 41, 2) := by decide +kernel
theorem dX7_relockTime_4 : decode cX7_relockTime 4 = .ok (.ldc 42, 2) := by decide +kernel
theorem dX7_relockTime_6 : decode cX7_relockTime 6 = .ok (.invokestatic 35, 3) := by decide +kernel
theorem dX7_relockTime_9 : decode cX7_relockTime 9 = .ok (.ifCond .eq 18, 3) := by decide +kernel
theorem dX7_relockTime_12 : decode cX7_relockTime 12 = .ok (.iload_n 2, 1) := by decide +kernel
theorem dX7_relockTime_13 : decode cX7_relockTime 13 = .ok (.iconst 1, 1) := by decide +kernel
theorem dX7_relockTime_14 : decode cX7_relockTime 14 = .ok (.sipush 2000, 3) := by decide +kernel
theorem dX7_relockTime_17 : decode cX7_relockTime 17 = .ok (.invokestatic 35, 3) := by decide +kernel
theorem dX7_relockTime_20 : decode cX7_relockTime 20 = .ok (.ifCond .eq 7, 3) := by decide +kernel
theorem dX7_relockTime_23 : decode cX7_relockTime 23 = .ok (.iconst 0, 1) := by decide +kernel
theorem dX7_relockTime_24 : decode cX7_relockTime 24 = .ok (.goto 4, 3) := by decide +kernel
theorem dX7_relockTime_27 : decode cX7_relockTime 27 = .ok (.iconst 1, 1) := by decide +kernel
theorem dX7_relockTime_28 : decode cX7_relockTime 28 = .ok (.putfield 30, 3) := by decide +kernel
theorem dX7_relockTime_31 : decode cX7_relockTime 31 = .ok (.aload_n 0, 1) := by decide +kernel
theorem dX7_relockTime_32 : decode cX7_relockTime 32 = .ok (.getfield 30, 3) := by decide +kernel
theorem dX7_relockTime_35 : decode cX7_relockTime 35 = .ok (.ifCond .eq 5, 3) := by decide +kernel
theorem dX7_relockTime_38 : decode cX7_relockTime 38 = .ok (.iconst 0, 1) := by decide +kernel
theorem dX7_relockTime_39 : decode cX7_relockTime 39 = .ok (.ireturn, 1) := by decide +kernel
theorem dX7_relockTime_40 : decode cX7_relockTime 40 = .ok (.aload_n 0, 1) := by decide +kernel
theorem dX7_relockTime_41 : decode cX7_relockTime 41 = .ok (.invokevirtual 95, 3) := by decide +kernel
theorem dX7_relockTime_44 : decode cX7_relockTime 44 = .ok (.aload_n 0, 1) := by decide +kernel
theorem dX7_relockTime_45 : decode cX7_relockTime 45 = .ok (.getfield 7, 3) := by decide +kernel
theorem dX7_relockTime_48 : decode cX7_relockTime 48 = .ok (.iconst 3, 1) := by decide +kernel
theorem dX7_relockTime_49 : decode cX7_relockTime 49 = .ok (.aload_n 0, 1) := by decide +kernel
theorem dX7_relockTime_50 : decode cX7_relockTime 50 = .ok (.getfield 7, 3) := by decide +kernel
theorem dX7_relockTime_53 : decode cX7_relockTime 53 = .ok (.iconst 3, 1) := by decide +kernel
theorem dX7_relockTime_54 : decode cX7_relockTime 54 = .ok (.iaload, 1) := by decide +kernel
theorem dX7_relockTime_55 : decode cX7_relockTime 55 = .ok (.iload_n 1, 1) := by decide +kernel
theorem dX7_relockTime_56 : decode cX7_relockTime 56 = .ok (.iadd, 1) := by decide +kernel
theorem dX7_relockTime_57 : decode cX7_relockTime 57 = .ok (.invokestatic 43, 3) := by decide +kernel
theorem dX7_relockTime_60 : decode cX7_relockTime 60 = .ok (.iastore, 1) := by decide +kernel
theorem dX7_relockTime_61 : decode cX7_relockTime 61 = .ok (.aload_n 0, 1) := by decide +kernel
theorem dX7_relockTime_62 : decode cX7_relockTime 62 = .ok (.getfield 7, 3) := by decide +kernel
theorem dX7_relockTime_65 : decode cX7_relockTime 65 = .ok (.bipush 7, 2) := by decide +kernel
theorem dX7_relockTime_67 : decode cX7_relockTime 67 = .ok (.iconst 0, 1) := by decide +kernel
theorem dX7_relockTime_68 : decode cX7_relockTime 68 = .ok (.iastore, 1) := by decide +kernel
theorem dX7_relockTime_69 : decode cX7_relockTime 69 = .ok (.iconst 0, 1) := by decide +kernel
theorem dX7_relockTime_70 : decode cX7_relockTime 70 = .ok (.istore_n 3, 1) := by decide +kernel
theorem dX7_relockTime_71 : decode cX7_relockTime 71 = .ok (.iload_n 3, 1) := by decide +kernel
theorem dX7_relockTime_72 : decode cX7_relockTime 72 = .ok (.iload_n 2, 1) := by decide +kernel
theorem dX7_relockTime_73 : decode cX7_relockTime 73 = .ok (.if_icmp .ge 20, 3) := by decide +kernel
theorem dX7_relockTime_76 : decode cX7_relockTime 76 = .ok (.aload_n 0, 1) := by decide +kernel
theorem dX7_relockTime_77 : decode cX7_relockTime 77 = .ok (.invokevirtual 65, 3) := by decide +kernel
theorem dX7_relockTime_80 : decode cX7_relockTime 80 = .ok (.ifCond .ne 13, 3) := by decide +kernel
theorem dX7_relockTime_83 : decode cX7_relockTime 83 = .ok (.aload_n 0, 1) := by decide +kernel
theorem dX7_relockTime_84 : decode cX7_relockTime 84 = .ok (.invokevirtual 88, 3) := by decide +kernel
theorem dX7_relockTime_87 : decode cX7_relockTime 87 = .ok (.iinc 3 1, 3) := by decide +kernel
theorem dX7_relockTime_90 : decode cX7_relockTime 90 = .ok (.goto (-19), 3) := by decide +kernel
theorem dX7_relockTime_93 : decode cX7_relockTime 93 = .ok (.aload_n 0, 1) := by decide +kernel
theorem dX7_relockTime_94 : decode cX7_relockTime 94 = .ok (.invokevirtual 65, 3) := by decide +kernel
theorem dX7_relockTime_97 : decode cX7_relockTime 97 = .ok (.ifCond .eq 7, 3) := by decide +kernel
theorem dX7_relockTime_100 : decode cX7_relockTime 100 = .ok (.iload_n 3, 1) := by decide +kernel
theorem dX7_relockTime_101 : decode cX7_relockTime 101 = .ok (.goto 4, 3) := by decide +kernel
theorem dX7_relockTime_104 : decode cX7_relockTime 104 = .ok (.iconst (-1), 1) := by decide +kernel
theorem dX7_relockTime_105 : decode cX7_relockTime 105 = .ok (.istore 4, 2) := by decide +kernel
theorem dX7_relockTime_107 : decode cX7_relockTime 107 = .ok (.aload_n 0, 1) := by decide +kernel
theorem dX7_relockTime_108 : decode cX7_relockTime 108 = .ok (.invokevirtual 98, 3) := by decide +kernel
theorem dX7_relockTime_111 : decode cX7_relockTime 111 = .ok (.iload 4, 2) := by decide +kernel
theorem dX7_relockTime_113 : decode cX7_relockTime 113 = .ok (.ireturn, 1) := by decide +kernel
set_option maxRecDepth 20000 in
theorem ggX7_save_X7_in : GoodIn wsX7_save wsX7_in := goodIn_r _ [10] (by decide +kernel) (by decide +kernel)
set_option maxRecDepth 20000 in
theorem gX7_save_X7_in : GoodIn wsX7_save (va_wsS RX7 35 yX7_in wsX7_in) := goodIn_app (goodIn_of _ (by decide +kernel)) ggX7_save_X7_in
theorem dX7_save_0 : decode cX7_save 0 = .ok (.aload_n 0, 1) := by decide +kernel
theorem dX7_save_1 : decode cX7_save 1 = .ok (.iload_n 1, 1) := by decide +kernel
theorem dX7_save_2 : decode cX7_save 2 = .ok (.iconst 0, 1) := by decide +kernel
theorem dX7_save_3 : decode cX7_save 3 = .ok (.iconst 1, 1) := by decide +kernel
theorem dX7_save_4 : decode cX7_save 4 = .ok (.invokestatic 35, 3) := by decide +kernel
theorem dX7_save_7 : decode cX7_save 7 = .ok (.ifCond .eq 7, 3) := by decide +kernel
theorem dX7_save_10 : decode cX7_save 10 = .ok (.iconst 0, 1) := by decide +kernel
theorem dX7_save_11 : decode cX7_save 11 = .ok (.goto 4, 3) := by decide +kernel
theorem dX7_save_14 : decode cX7_save 14 = .ok (.iconst 1, 1) := by decide +kernel
theorem dX7_save_15 : decode cX7_save 15 = .ok (.putfield 30, 3) := by decide +kernel
theorem dX7_save_18 : decode cX7_save 18 = .ok (.aload_n 0, 1) := by decide +kernel
theorem dX7_save_19 : decode cX7_save 19 = .ok (.getfield 30, 3) := by decide +kernel
theorem dX7_save_22 : decode cX7_save 22 = .ok (.ifCond .ne 53, 3) := by decide +kernel
theorem dX7_save_25 : decode cX7_save 25 = .ok (.iconst 0, 1) := by decide +kernel
theorem dX7_save_26 : decode cX7_save 26 = .ok (.istore_n 2, 1) := by decide +kernel
theorem dX7_save_27 : decode cX7_save 27 = .ok (.iload_n 2, 1) := by decide +kernel
theorem dX7_save_28 : decode cX7_save 28 = .ok (.sipush 165, 3) := by decide +kernel
theorem dX7_save_31 : decode cX7_save 31 = .ok (.if_icmp .ge 27, 3) := by decide +kernel
theorem dX7_save_34 : decode cX7_save 34 = .ok (.aload_n 0, 1) := by decide +kernel
theorem dX7_save_35 : decode cX7_save 35 = .ok (.getfield 16, 3) := by decide +kernel
theorem dX7_save_38 : decode cX7_save 38 = .ok (.sipush 165, 3) := by decide +kernel
theorem dX7_save_41 : decode cX7_save 41 = .ok (.iload_n 1, 1) := by decide +kernel
theorem dX7_save_42 : decode cX7_save 42 = .ok (.imul, 1) := by decide +kernel
theorem dX7_save_43 : decode cX7_save 43 = .ok (.iload_n 2, 1) := by decide +kernel
theorem dX7_save_44 : decode cX7_save 44 = .ok (.iadd, 1) := by decide +kernel
theorem dX7_save_45 : decode cX7_save 45 = .ok (.aload_n 0, 1) := by decide +kernel
theorem dX7_save_46 : decode cX7_save 46 = .ok (.getfield 7, 3) := by decide +kernel
theorem dX7_save_49 : decode cX7_save 49 = .ok (.iload_n 2, 1) := by decide +kernel
theorem dX7_save_50 : decode cX7_save 50 = .ok (.iaload, 1) := by decide +kernel
theorem dX7_save_51 : decode cX7_save 51 = .ok (.iastore, 1) := by decide +kernel
theorem dX7_save_52 : decode cX7_save 52 = .ok (.iinc 2 1, 3) := by decide +kernel
theorem dX7_save_55 : decode cX7_save 55 = .ok (.goto (-28), 3) := by decide +kernel
theorem dX7_save_58 : decode cX7_save 58 = .ok (.aload_n 0, 1) := by decide +kernel
theorem dX7_save_59 : decode cX7_save 59 = .ok (.getfield 19, 3) := by decide +kernel
theorem dX7_save_62 : decode cX7_save 62 = .ok (.iload_n 1, 1) := by decide +kernel
theorem dX7_save_63 : decode cX7_save 63 = .ok (.aload_n 0, 1) := by decide +kernel
theorem dX7_save_64 : decode cX7_save 64 = .ok (.getfield 91, 3) := by decide +kernel
theorem dX7_save_67 : decode cX7_save 67 = .ok (.lastore, 1) := by decide +kernel
theorem dX7_save_68 : decode cX7_save 68 = .ok (.aload_n 0, 1) := by decide +kernel
theorem dX7_save_69 : decode cX7_save 69 = .ok (.getfield 23, 3) := by decide +kernel
theorem dX7_save_72 : decode cX7_save 72 = .ok (.iload_n 1, 1) := by decide +kernel
theorem dX7_save_73 : decode cX7_save 73 = .ok (.iconst 1, 1) := by decide +kernel
theorem dX7_save_74 : decode cX7_save 74 = .ok (.bastore, 1) := by decide +kernel
theorem dX7_save_75 : decode cX7_save 75 = .ok (.return_, 1) := by decide +kernel
set_option maxRecDepth 20000 in
theorem ggX7_restore_X7_in : GoodIn wsX7_restore wsX7_in := goodIn_r _ [10] (by decide +kernel) (by decide +kernel)
set_option maxRecDepth 20000 in
theorem gX7_restore_X7_in : GoodIn wsX7_restore (va_wsS RX7 35 yX7_in wsX7_in) := goodIn_app (goodIn_of _ (by decide +kernel)) ggX7_restore_X7_in
theorem dX7_restore_0 : decode cX7_restore 0 = .ok (.aload_n 0, 1) := by decide +kernel
theorem dX7_restore_1 : decode cX7_restore 1 = .ok (.iload_n 1, 1) := by decide +kernel
theorem dX7_restore_2 : decode cX7_restore 2 = .ok (.iconst 0, 1) := by decide +kernel
theorem dX7_restore_3 : decode cX7_restore 3 = .ok (.iconst 1, 1) := by decide +kernel
theorem dX7_restore_4 : decode cX7_restore 4 = .ok (.invokestatic 35, 3) := by decide +kernel
theorem dX7_restore_7 : decode cX7_restore 7 = .ok (.ifCond .ne 7, 3) := by decide +kernel
theorem dX7_restore_10 : decode cX7_restore 10 = .ok (.iconst 1, 1) := by decide +kernel
theorem dX7_restore_11 : decode cX7_restore 11 = .ok (.goto 17, 3) := by decide +kernel
theorem dX7_restore_14 : decode cX7_restore 14 = .ok (.aload_n 0, 1) := by decide +kernel
theorem dX7_restore_15 : decode cX7_restore 15 = .ok (.getfield 23, 3) := by decide +kernel
theorem dX7_restore_18 : decode cX7_restore 18 = .ok (.iload_n 1, 1) := by decide +kernel
theorem dX7_restore_19 : decode cX7_restore 19 = .ok (.baload, 1) := by decide +kernel
theorem dX7_restore_20 : decode cX7_restore 20 = .ok (.ifCond .ne 7, 3) := by decide +kernel
theorem dX7_restore_23 : decode cX7_restore 23 = .ok (.iconst 2, 1) := by decide +kernel
theorem dX7_restore_24 : decode cX7_restore 24 = .ok (.goto 4, 3) := by decide +kernel
theorem dX7_restore_27 : decode cX7_restore 27 = .ok (.iconst 0, 1) := by decide +kernel
theorem dX7_restore_28 : decode cX7_restore 28 = .ok (.putfield 30, 3) := by decide +kernel
theorem dX7_restore_31 : decode cX7_restore 31 = .ok (.aload_n 0, 1) := by decide +kernel
theorem dX7_restore_32 : decode cX7_restore 32 = .ok (.getfield 30, 3) := by decide +kernel
theorem dX7_restore_35 : decode cX7_restore 35 = .ok (.ifCond .ne 46, 3) := by decide +kernel
theorem dX7_restore_38 : decode cX7_restore 38 = .ok (.iconst 0, 1) := by decide +kernel
theorem dX7_restore_39 : decode cX7_restore 39 = .ok (.istore_n 2, 1) := by decide +kernel
theorem dX7_restore_40 : decode cX7_restore 40 = .ok (.iload_n 2, 1) := by decide +kernel
theorem dX7_restore_41 : decode cX7_restore 41 = .ok (.sipush 165, 3) := by decide +kernel
theorem dX7_restore_44 : decode cX7_restore 44 = .ok (.if_icmp .ge 27, 3) := by decide +kernel
theorem dX7_restore_47 : decode cX7_restore 47 = .ok (.aload_n 0, 1) := by decide +kernel
theorem dX7_restore_48 : decode cX7_restore 48 = .ok (.getfield 7, 3) := by decide +kernel
theorem dX7_restore_51 : decode cX7_restore 51 = .ok (.iload_n 2, 1) := by decide +kernel
theorem dX7_restore_52 : decode cX7_restore 52 = .ok (.aload_n 0, 1) := by decide +kernel
theorem dX7_restore_53 : decode cX7_restore 53 = .ok (.getfield 16, 3) := by decide +kernel
theorem dX7_restore_56 : decode cX7_restore 56 = .ok (.sipush 165, 3) := by decide +kernel
theorem dX7_restore_59 : decode cX7_restore 59 = .ok (.iload_n 1, 1) := by decide +kernel
theorem dX7_restore_60 : decode cX7_restore 60 = .ok (.imul, 1) := by decide +kernel
theorem dX7_restore_61 : decode cX7_restore 61 = .ok (.iload_n 2, 1) := by decide +kernel
theorem dX7_restore_62 : decode cX7_restore 62 = .ok (.iadd, 1) := by decide +kernel
theorem dX7_restore_63 : decode cX7_restore 63 = .ok (.iaload, 1) := by decide +kernel
theorem dX7_restore_64 : decode cX7_restore 64 = .ok (.iastore, 1) := by decide +kernel
theorem dX7_restore_65 : decode cX7_restore 65 = .ok (.iinc 2 1, 3) := by decide +kernel
theorem dX7_restore_68 : decode cX7_restore 68 = .ok (.goto (-28), 3) := by decide +kernel
theorem dX7_restore_71 : decode cX7_restore 71 = .ok (.aload_n 0, 1) := by decide +kernel
theorem dX7_restore_72 : decode cX7_restore 72 = .ok (.aload_n 0, 1) := by decide +kernel
theorem dX7_restore_73 : decode cX7_restore 73 = .ok (.getfield 19, 3) := by decide +kernel
theorem dX7_restore_76 : decode cX7_restore 76 = .ok (.iload_n 1, 1) := by decide +kernel
theorem dX7_restore_77 : decode cX7_restore 77 = .ok (.laload, 1) := by decide +kernel
theorem dX7_restore_78 : decode cX7_restore 78 = .ok (.putfield 91, 3) := by decide +kernel
